import java.util.NoSuchElementException;

/** Counts and prints the answers that are not the ones that are due. */
final class Check {
  interface Call {
    double answer();
  }

  private static int wrong = 0;
  private static String sentence = "";

  private Check() {}

  /** The document's words that the checks from here on are about; they are told if one fails. */
  static void sentence(String words) {
    sentence = words;
  }

  /** The call answers what is due. */
  static void due(String what, double want, double got) {
    if (got != want) {
      fail(what + " answered " + got + ", due is " + want);
    }
  }

  static void argument(String what, Call call) {
    thrown(what, call, IllegalArgumentException.class);
  }

  static void state(String what, Call call) {
    thrown(what, call, IllegalStateException.class);
  }

  static void missing(String what, Call call) {
    thrown(what, call, NoSuchElementException.class);
  }

  private static void thrown(String what, Call call, Class<? extends RuntimeException> want) {
    try {
      fail(what + " answered " + call.answer() + ", due is " + want.getSimpleName());
    } catch (RuntimeException e) {
      if (e.getClass() != want) {
        fail(what + " threw " + e + ", due is " + want.getSimpleName());
      }
    }
  }

  static void fail(String text) {
    wrong++;
    System.out.println(sentence.isEmpty() ? text : text + "\n    by: " + sentence);
  }

  /** To be called at the end of every test's main method. */
  static void end() {
    if (wrong != 0) {
      System.out.println(wrong + " answers are not as due");
      System.exit(1);
    }
  }
}
