/** Promise 3: instr. */
public final class InstrTest {
  private static final int A = 0;
  private static final int B = 1;
  private static final int C = 2;

  public static void main(String[] args) {
    functions();
    ops();
    globals();
    fields();
    places();
    calledFunctions();
    writtenNumbers();
    whatHasNoUse();
    fullFunctions();
    wrongPartsAreTestedFirst();
    eachInItsPlace();
    Check.end();
  }

  /** The part of the op may be least .. greatest, and no more; the other parts are 0. */
  private static void bounds(int op, int part, int least, int greatest) {
    accepted(op, part, least);
    accepted(op, part, greatest);
    for (int wrong : new int[] {least - 1, greatest + 1, Integer.MIN_VALUE, Integer.MAX_VALUE}) {
      refused(op, part, wrong);
    }
  }

  private static void accepted(int op, int part, int value) {
    QuakeServer server = new QuakeServer();
    int[] parts = new int[3];
    parts[part] = value;
    String told = "op " + op + " with part " + part + " = " + value;
    Check.due(told, 1, server.instr(0, op, parts[0], parts[1], parts[2]));
    Check.due(told + " is done", 1, server.run(0, 0, 0) > 0 ? 1 : 0);
  }

  private static void refused(int op, int part, int value) {
    QuakeServer server = new QuakeServer();
    int[] parts = new int[3];
    parts[part] = value;
    Check.argument("op " + op + " with part " + part + " = " + value,
        () -> server.instr(0, op, parts[0], parts[1], parts[2]));
    Check.due("nothing was added", 0, server.run(0, 0, 0));
  }

  private static void functions() {
    Check.sentence("IllegalArgumentException: function not 0 .. 5");
    QuakeServer server = new QuakeServer();
    for (int function : new int[] {-1, 6, Integer.MIN_VALUE, Integer.MAX_VALUE}) {
      Check.argument("function " + function, () -> server.instr(function, 16, 0, 0, 0));
    }
    for (int function = 0; function < 6; function++) {
      Check.due("function " + function, 1, server.instr(function, 16, 0, 0, 0));
    }
  }

  private static void ops() {
    Check.sentence("op not 0 .. 16");
    QuakeServer server = new QuakeServer();
    for (int op : new int[] {-1, 17, Integer.MIN_VALUE, Integer.MAX_VALUE}) {
      Check.argument("op " + op, () -> server.instr(0, op, 0, 0, 0));
    }
    for (int op = 0; op <= 16; op++) {
      Check.due("op " + op, op % 14 + 1, server.instr(op / 14, op, 0, 0, 0));
    }
  }

  private static void globals() {
    Check.sentence("a global (a for 1 to 9, 13, 14; b for 1 to 5 but 0 where it is a number; "
        + "c for 0 to 8, 12, 14, 15) not 0 .. 23");
    for (int op : new int[] {1, 2, 3, 4, 5, 6, 7, 8, 9, 13, 14}) {
      bounds(op, A, 0, 23);
    }
    for (int op : new int[] {1, 2, 3, 4, 5}) {
      bounds(op, B, 0, 23);
    }
    for (int op : new int[] {0, 1, 2, 3, 4, 5, 6, 7, 8, 12, 14, 15}) {
      bounds(op, C, 0, 23);
    }
  }

  private static void fields() {
    Check.sentence("a field (b for 7, 8) not 0 .. 15");
    bounds(7, B, 0, 15);
    bounds(8, B, 0, 15);
  }

  private static void places() {
    Check.sentence("a place (b for 9, 10) not 0 .. 13");
    bounds(9, B, 0, 13);
    bounds(10, B, 0, 13);
  }

  private static void calledFunctions() {
    Check.sentence("a function (a for 11) not 0 .. 5");
    bounds(11, A, 0, 5);
  }

  private static void writtenNumbers() {
    Check.sentence("b for 0 not -16000 .. 16000.");
    bounds(0, B, -16000, 16000);
  }

  private static void whatHasNoUse() {
    Check.sentence("What an op has no use for may be anything.");
    int[][] free = {
      {0, A}, {6, B}, {9, C}, {10, A}, {10, C}, {11, B}, {11, C}, {12, A}, {12, B}, {13, B}, {13, C},
      {14, B}, {15, A}, {15, B}, {16, A}, {16, B}, {16, C}
    };
    for (int[] part : free) {
      for (int value : new int[] {-1, 24, 16001, Integer.MIN_VALUE, Integer.MAX_VALUE}) {
        accepted(part[0], part[1], value);
      }
    }
  }

  private static void fullFunctions() {
    Check.sentence("IllegalStateException: 14 are there.");
    QuakeServer server = new QuakeServer();
    for (int function = 0; function < 6; function++) {
      int number = function;
      for (int place = 0; place < 14; place++) {
        Check.due("how many it has", place + 1, server.instr(function, 15, 0, 0, 0));
      }
      Check.state("a fifteenth", () -> server.instr(number, 15, 0, 0, 0));
      Check.state("once more", () -> server.instr(number, 16, 0, 0, 0));
    }
    for (int function = 0; function < 6; function++) {
      Check.due("instructions still", 14, server.run(function, 0, 0));
    }
  }

  private static void wrongPartsAreTestedFirst() {
    Check.sentence("What is thrown is told in the order of testing");
    QuakeServer server = new QuakeServer();
    for (int place = 0; place < 14; place++) {
      server.instr(0, 16, 0, 0, 0);
    }
    Check.argument("a fifteenth with a wrong op", () -> server.instr(0, 17, 0, 0, 0));
    Check.argument("a fifteenth with a wrong a", () -> server.instr(0, 13, 24, 0, 0));
    Check.argument("a fifteenth with a wrong b", () -> server.instr(0, 7, 0, 16, 0));
    Check.argument("a fifteenth with a wrong c", () -> server.instr(0, 15, 0, 0, 24));
    Check.argument("a fifteenth of a wrong function", () -> server.instr(6, 16, 0, 0, 0));
  }

  private static void eachInItsPlace() {
    Check.sentence("Adds an instruction to a function; answers how many it has.");
    QuakeServer server = new QuakeServer();
    for (int place = 0; place < 14; place++) {
      for (int function = 0; function < 6; function++) {
        Check.due("how many it has", place + 1,
            server.instr(function, 0, 0, function * 100 + place, place));
      }
    }
    for (int function = 0; function < 6; function++) {
      Check.due("all are done", 14, server.run(function, 0, 0));
      for (int place = 0; place < 14; place++) {
        Check.due("each in its place", function * 100 + place, server.global(place));
      }
    }
  }
}
