/** Promise 10: run, with every op of the terms. */
public final class RunTest {
  public static void main(String[] args) {
    arithmetic();
    comparisons();
    fieldsOfEntities();
    jumps();
    callsAndEnds();
    creating();
    removing();
    firstBehind();
    draws();
    sixtyInstructions();
    fiveDeep();
    selfOtherAndTime();
    wrongInputs();
    Check.end();
  }

  /** What global 2 becomes by the op with a in global 0 and b in global 1. */
  private static int op(int op, int a, int b) {
    QuakeServer server = new QuakeServer();
    server.setGlobal(0, a);
    server.setGlobal(1, b);
    server.setGlobal(2, 55);
    server.instr(0, op, 0, 1, 2);
    Check.due("one instruction", 1, server.run(0, 0, 0));
    Check.due("a stays", a, server.global(0));
    Check.due("b stays", b, server.global(1));
    return server.global(2);
  }

  private static void arithmetic() {
    Check.due("add", -3, op(1, 4, -7));
    Check.due("add up to the limit", 131072, op(1, 131072, 1));
    Check.due("add down to the limit", -131072, op(1, -131072, -131072));
    Check.due("subtract", 11, op(2, 4, -7));
    Check.due("subtract up to the limit", 131072, op(2, 131072, -1));
    Check.due("subtract down to the limit", -131072, op(2, -131072, 131072));
    Check.due("2 * 3", 48, op(3, 16, 24));
    Check.due("an eighth of an eighth", 0, op(3, 1, 1));
    Check.due("down below 0", -1, op(3, -1, 1));
    Check.due("-0.875 * 1.125 goes down", -8, op(3, -7, 9));
    Check.due("multiply up to the limit", 131072, op(3, 131072, 131072));
    Check.due("multiply down to the limit", -131072, op(3, 131072, -131072));
    Check.due("multiply by one at the limit", -131072, op(3, -131072, 8));
    Check.due("copy", -9, op(6, -9, 3));
    QuakeServer server = new QuakeServer();
    server.instr(0, 0, 99, -16000, 23);
    server.instr(0, 0, 99, 16000, 0);
    server.run(0, 0, 0);
    Check.due("least written", -16000, server.global(23));
    Check.due("greatest written", 16000, server.global(0));
  }

  private static void comparisons() {
    Check.due("less", 8, op(4, -1, 0));
    Check.due("not less: equal", 0, op(4, 3, 3));
    Check.due("not less: greater", 0, op(4, 4, 3));
    Check.due("equal", 8, op(5, 3, 3));
    Check.due("not equal", 0, op(5, 3, 4));
  }

  private static void fieldsOfEntities() {
    QuakeServer server = new QuakeServer();
    server.spawn(1.5, 0, 0);
    server.spawn(-2.5, 0, 0);
    server.instr(0, 7, 0, 0, 1);
    server.instr(1, 8, 0, 15, 2);
    server.setGlobal(2, 77);
    int[][] numbers = {{0, 12}, {7, 12}, {8, -20}, {15, -20}, {16, 0}, {-1, 0}, {96, 0}, {131072, 0}};
    for (int[] n : numbers) {
      server.setGlobal(0, n[0]);
      server.setGlobal(1, 99);
      server.run(0, 0, 0);
      Check.due("X of the entity at " + n[0] + " eighths", n[1], server.global(1));
    }
    server.setGlobal(0, 15);
    server.run(1, 0, 0);
    Check.due("field 15 of entity 1", 77 / 8.0, server.get(1, 15));
    Check.due("not of entity 0", 0, server.get(0, 15));
    for (int nobody : new int[] {-1, 16, 95, 96, 131072, -131072}) {
      server.setGlobal(0, nobody);
      Check.due("writing to nobody is an instruction", 1, server.run(1, 0, 0));
    }
    Check.due("nobody came by that", 2, server.count(0));
    server.spawn(0, 0, 0);
    Check.due("what was written to nobody is lost", 0, server.get(2, 15));
  }

  private static void jumps() {
    QuakeServer server = new QuakeServer();
    server.instr(0, 9, 0, 2, 0);
    server.instr(0, 0, 0, 1, 1);
    server.instr(0, 10, 0, 4, 0);
    server.instr(0, 0, 0, 2, 1);
    server.instr(0, 0, 0, 3, 2);
    Check.due("0: goes to b", 3, server.run(0, 0, 0));
    Check.due("left out", 0, server.global(1));
    Check.due("and on", 3, server.global(2));
    server.setGlobal(0, -1);
    Check.due("not 0: does not go", 4, server.run(0, 0, 0));
    Check.due("done", 1, server.global(1));
    server.instr(1, 10, 0, 13, 0);
    server.instr(1, 0, 0, 5, 3);
    Check.due("behind the last instruction the function is over", 1, server.run(1, 0, 0));
    Check.due("left out", 0, server.global(3));
    Check.due("no runaway", 0, server.count(3));
  }

  private static void callsAndEnds() {
    QuakeServer server = new QuakeServer();
    server.instr(0, 11, 1, 0, 0);
    server.instr(0, 0, 0, 4, 4);
    server.instr(1, 0, 0, 5, 5);
    server.instr(1, 16, 0, 0, 0);
    server.instr(1, 0, 0, 6, 6);
    server.instr(2, 16, 0, 0, 0);
    server.instr(2, 0, 0, 7, 7);
    server.instr(3, 11, 4, 0, 0);
    server.instr(3, 0, 0, 8, 8);
    Check.due("call, two there, one behind it", 4, server.run(0, 0, 0));
    Check.due("behind the call", 4, server.global(4));
    Check.due("in the call", 5, server.global(5));
    Check.due("behind the end", 0, server.global(6));
    Check.due("an end in the first", 1, server.run(2, 0, 0));
    Check.due("behind that end", 0, server.global(7));
    Check.due("a call of an empty function", 2, server.run(3, 0, 0));
    Check.due("behind that call", 8, server.global(8));
    Check.due("runs that did something", 3, server.count(5));
  }

  private static void creating() {
    QuakeServer server = new QuakeServer();
    server.instr(0, 12, 0, 0, 0);
    for (int number = 0; number < 12; number++) {
      server.run(0, 0, 0);
      Check.due("the new one's number", number * 8, server.global(0));
      for (int field = 0; field < 16; field++) {
        Check.due("0 in all", 0, server.get(number, field));
      }
    }
    server.run(0, 0, 0);
    Check.due("without one", -8, server.global(0));
    server.set(4, 9, 3);
    server.remove(4);
    server.run(0, 0, 0);
    Check.due("the least one", 32, server.global(0));
    Check.due("0 in all again", 0, server.get(4, 9));
  }

  private static void removing() {
    QuakeServer server = new QuakeServer();
    server.spawn(1, 1, 1);
    server.spawn(2, 2, 2);
    server.instr(0, 13, 0, 0, 0);
    for (int nobody : new int[] {-1, 16, 96, 131072, -131072}) {
      server.setGlobal(0, nobody);
      Check.due("removing nobody is an instruction", 1, server.run(0, 0, 0));
      Check.due("nobody goes", 2, server.count(0));
    }
    server.setGlobal(0, 15);
    server.run(0, 0, 0);
    Check.due("one goes", 1, server.count(0));
    Check.missing("entity 1", () -> server.get(1, 0));
    Check.due("entity 0 stays", 1, server.get(0, 0));
  }

  private static void firstBehind() {
    QuakeServer server = new QuakeServer();
    server.instr(0, 14, 0, 0, 1);
    server.setGlobal(0, -131072);
    server.run(0, 0, 0);
    Check.due("nobody is there", -8, server.global(1));
    for (int number = 0; number < 12; number++) {
      server.spawn(0, 0, 0);
    }
    server.run(0, 0, 0);
    Check.due("behind a number below 0 the first is 0", 0, server.global(1));
    for (int gone : new int[] {0, 2, 3, 11}) {
      server.remove(gone);
    }
    int[][] numbers = {
      {-131072, 8}, {-8, 8}, {-1, 8}, {0, 8}, {7, 8}, {8, 32}, {15, 32}, {16, 32},
      {24, 32}, {31, 32}, {32, 40}, {79, 80}, {80, -8}, {88, -8}, {131072, -8}
    };
    for (int[] n : numbers) {
      server.setGlobal(0, n[0]);
      server.run(0, 0, 0);
      Check.due("the first behind " + n[0] + " eighths", n[1], server.global(1));
    }
  }

  private static void draws() {
    QuakeServer server = new QuakeServer();
    server.instr(0, 15, 0, 0, 0);
    long state = 1;
    for (int drawn = 0; drawn < 100; drawn++) {
      state = (state * 1103515245L + 12345L) % 2147483648L;
      server.run(0, 0, 0);
      Check.due("state of the draws", state, server.count(4));
      Check.due("the draw, in eighths", state / 65536 % 8, server.global(0));
    }
  }

  /** A server whose function 0 does so many instructions (1 to 79) and ends. */
  private static QuakeServer doing(int instructions) {
    QuakeServer server = new QuakeServer();
    int left = instructions;
    for (int function = 0; function < 6 && left > 0; function++) {
      boolean last = left <= 14;
      for (int place = 0; place < (last ? left : 13); place++) {
        server.instr(function, 0, 0, 1, 0);
      }
      if (!last) {
        server.instr(function, 11, function + 1, 0, 0);
      }
      left -= last ? left : 14;
    }
    return server;
  }

  private static void sixtyInstructions() {
    for (int instructions = 1; instructions <= 60; instructions++) {
      QuakeServer server = doing(instructions);
      Check.due("instructions", instructions, server.run(0, 0, 0));
      Check.due("no runaway at " + instructions, 0, server.count(3));
    }
    for (int instructions = 61; instructions <= 79; instructions++) {
      QuakeServer server = doing(instructions);
      Check.due("at most 60", 60, server.run(0, 0, 0));
      Check.due("a runaway at " + instructions, 1, server.count(3));
      server.run(0, 0, 0);
      Check.due("another", 2, server.count(3));
      Check.due("they are runs too", 2, server.count(5));
    }
  }

  private static void fiveDeep() {
    QuakeServer server = new QuakeServer();
    for (int function = 0; function < 5; function++) {
      server.instr(function, 11, function + 1, 0, 0);
    }
    server.instr(5, 0, 0, 5, 5);
    Check.due("five deep", 6, server.run(0, 0, 0));
    Check.due("done there", 5, server.global(5));
    Check.due("no runaway", 0, server.count(3));
    server.instr(5, 9, 6, 3, 0);
    server.instr(5, 11, 0, 0, 0);
    server.instr(5, 0, 0, 7, 7);
    server.setGlobal(6, 1);
    Check.due("the call that is too deep is done", 8, server.run(0, 0, 0));
    Check.due("a runaway", 1, server.count(3));
    Check.due("nothing behind it is done", 0, server.global(7));
    server.setGlobal(6, 0);
    Check.due("the next run is not stopped by it", 8, server.run(0, 0, 0));
    Check.due("nor a runaway", 1, server.count(3));
    QuakeServer inTurn = new QuakeServer();
    for (int place = 0; place < 14; place++) {
      inTurn.instr(0, 11, 1, 0, 0);
    }
    inTurn.instr(1, 16, 0, 0, 0);
    Check.due("calls in turn are not deep", 28, inTurn.run(0, 0, 0));
    Check.due("no runaway", 0, inTurn.count(3));
    QuakeServer empty = new QuakeServer();
    for (int function = 0; function < 5; function++) {
      empty.instr(function, 11, function + 1, 0, 0);
    }
    Check.due("an empty function five deep", 5, empty.run(0, 0, 0));
    Check.due("no runaway", 0, empty.count(3));
  }

  private static void selfOtherAndTime() {
    QuakeServer server = new QuakeServer();
    server.instr(0, 6, 20, 0, 0);
    server.instr(0, 6, 21, 0, 1);
    server.instr(0, 6, 22, 0, 2);
    server.instr(0, 0, 0, 33, 20);
    server.instr(0, 0, 0, 34, 21);
    server.instr(0, 0, 0, 35, 22);
    server.setGlobal(20, 5);
    server.setGlobal(21, 6);
    server.setGlobal(22, 7);
    server.tick(3);
    Check.due("run", 6, server.run(0, 11, -1));
    Check.due("self", 88, server.global(0));
    Check.due("other", -8, server.global(1));
    Check.due("time", 3, server.global(2));
    Check.due("20 is what it was", 5, server.global(20));
    Check.due("21 is what it was", 6, server.global(21));
    Check.due("22 is not", 35, server.global(22));
    Check.due("a run without instructions", 0, server.run(5, 0, 0));
    Check.due("22 becomes the time", 3, server.global(22));
    Check.due("it did nothing", 1, server.count(5));
    server.instr(1, 11, 1, 0, 0);
    server.run(1, 4, 4);
    Check.due("20 behind a runaway", 5, server.global(20));
    Check.due("21 behind a runaway", 6, server.global(21));
  }

  private static void wrongInputs() {
    QuakeServer server = new QuakeServer();
    server.instr(0, 15, 0, 0, 0);
    for (int wrong : new int[] {-1, 6, Integer.MIN_VALUE, Integer.MAX_VALUE}) {
      Check.argument("function " + wrong, () -> server.run(wrong, 0, 0));
    }
    for (int wrong : new int[] {-2, 12, Integer.MIN_VALUE, Integer.MAX_VALUE}) {
      Check.argument("self " + wrong, () -> server.run(0, wrong, 0));
      Check.argument("other " + wrong, () -> server.run(0, 0, wrong));
    }
    Check.due("nothing was drawn", 1, server.count(4));
    for (int right = -1; right < 12; right++) {
      Check.due("self", 1, server.run(0, right, 0));
      Check.due("other", 1, server.run(0, 0, right));
    }
  }
}
