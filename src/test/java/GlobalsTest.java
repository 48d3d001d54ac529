/** Promises 8 and 9: setGlobal and global. */
public final class GlobalsTest {
  private static final int[] WRONG = {-1, 24, Integer.MIN_VALUE, Integer.MAX_VALUE};

  public static void main(String[] args) {
    whatItWas();
    eachOfItsOwn();
    setOfAWrongGlobal();
    setToNoNumber();
    askedForAWrongGlobal();
    Check.end();
  }

  private static void whatItWas() {
    Check.sentence("Sets a global; answers what it was, in eighths.");
    QuakeServer server = new QuakeServer();
    for (int global = 0; global < 24; global++) {
      int was = 0;
      for (int eighths : new int[] {131072, -131072, 131071, -131071, 1, -1, 0}) {
        Check.due("setGlobal", was, server.setGlobal(global, eighths));
        Check.due("global", eighths, server.global(global));
        was = eighths;
      }
    }
  }

  private static void eachOfItsOwn() {
    Check.sentence("A global, in eighths.");
    QuakeServer server = new QuakeServer();
    for (int global = 0; global < 24; global++) {
      server.setGlobal(global, global * 10 + 1);
    }
    for (int global = 0; global < 24; global++) {
      Check.due("global " + global, global * 10 + 1, server.global(global));
    }
  }

  private static void setOfAWrongGlobal() {
    Check.sentence("IllegalArgumentException: not 0 .. 23, or eighths no number.");
    QuakeServer server = new QuakeServer();
    for (int global : WRONG) {
      Check.argument("setGlobal " + global, () -> server.setGlobal(global, 0));
    }
    Check.due("setGlobal 0", 0, server.setGlobal(0, 1));
    Check.due("setGlobal 23", 0, server.setGlobal(23, 1));
  }

  private static void setToNoNumber() {
    Check.sentence("IllegalArgumentException: not 0 .. 23, or eighths no number.");
    QuakeServer server = new QuakeServer();
    for (int global : new int[] {0, 5, 23}) {
      server.setGlobal(global, 7);
      for (int eighths : new int[] {131073, -131073, Integer.MIN_VALUE, Integer.MAX_VALUE}) {
        Check.argument("setGlobal to " + eighths, () -> server.setGlobal(global, eighths));
      }
      Check.due("it stays", 7, server.setGlobal(global, 131072));
      Check.due("the greatest", 131072, server.setGlobal(global, -131072));
      Check.due("the least", -131072, server.global(global));
    }
  }

  private static void askedForAWrongGlobal() {
    Check.sentence("A global, in eighths. IllegalArgumentException: not 0 .. 23.");
    QuakeServer server = new QuakeServer();
    for (int global : WRONG) {
      Check.argument("global " + global, () -> server.global(global));
    }
    Check.due("global 0", 0, server.global(0));
    Check.due("global 23", 0, server.global(23));
  }
}
