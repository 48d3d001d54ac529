/** Promise 10: run, and the terms' bounds of a run. */
public final class RunTest {
  public static void main(String[] args) {
    fourteenPlaces();
    overBehindTheLast();
    noSuchFunction();
    sixtyInstructions();
    sixtyInALoop();
    fiveDeep();
    manyCallsInTurn();
    overAsItIs();
    selfAndOther();
    time();
    asTheyWereBefore();
    instructionsDone();
    outOfRange();
    thereOrNot();
    Check.end();
  }

  private static void fourteenPlaces() {
    Check.sentence("FUNCTIONS 0 .. 5 have up to 14 INSTRUCTIONS (op, a, b, c), numbered from 0");
    for (int function = 0; function < 6; function++) {
      for (int place = 1; place < 14; place++) {
        QuakeServer server = new QuakeServer();
        server.instr(function, 10, 0, place, 0);
        for (int made = 1; made < 14; made++) {
          server.instr(function, 0, 0, made, made);
        }
        server.run(function, 0, 0);
        for (int global = 1; global < 14; global++) {
          Check.due("from place " + place + " on", global < place ? 0 : global,
              server.global(global));
        }
      }
    }
  }

  private static void overBehindTheLast() {
    Check.sentence("A function is also over behind its last instruction.");
    for (int length = 0; length <= 14; length++) {
      QuakeServer server = new QuakeServer();
      for (int made = 0; made < length; made++) {
        server.instr(1, 15, 0, 0, 0);
      }
      server.instr(0, 11, 1, 0, 0);
      server.instr(0, 0, 0, 5, 5);
      Check.due("a function of " + length, length, server.run(1, 0, 0));
      Check.due("called", length + 2, server.run(0, 0, 0));
      Check.due("and back", 5, server.global(5));
      Check.due("no runaway", 0, server.count(3));
    }
    QuakeServer server = new QuakeServer();
    server.instr(0, 10, 0, 2, 0);
    server.instr(0, 0, 0, 5, 3);
    Check.due("gone just behind the last", 1, server.run(0, 0, 0));
    Check.due("left out", 0, server.global(3));
    server.instr(0, 0, 0, 6, 4);
    Check.due("a new instruction stands there now", 2, server.run(0, 0, 0));
    Check.due("and is done", 6, server.global(4));
    Check.due("no runaway", 0, server.count(3));
  }

  private static void noSuchFunction() {
    Check.sentence("A RUN of a function (one that is not 0 .. 5: nothing)");
    double[][] thinks = {
      // THINK, and the function that runs by it, or -1
      {-16384, -1}, {-1, -1}, {-0.125, -1}, {0, -1}, {0.875, -1}, {1, 0}, {1.875, 0}, {2, 1}, {6, 5},
      {6.875, 5}, {7, -1}, {7.875, -1}, {16384, -1}
    };
    for (double[] think : thinks) {
      QuakeServer server = Scene.crowd(1);
      for (int function = 0; function < 6; function++) {
        server.instr(function, 0, 0, function + 1, 0);
      }
      server.setGlobal(22, 99);
      server.set(0, Scene.THINK, think[0]);
      server.set(0, Scene.NEXT, 0.125);
      server.tick(1);
      Check.due("what runs by THINK " + think[0], think[1] + 1, server.global(0));
      Check.due("runs by THINK " + think[0], think[1] < 0 ? 0 : 1, server.count(5));
      Check.due("global 22 by THINK " + think[0], think[1] < 0 ? 99 : 1, server.global(22));
    }
  }

  /** A server whose function 0 does so many instructions (1 to 79) and ends. */
  private static QuakeServer doing(int instructions) {
    QuakeServer server = new QuakeServer();
    int left = instructions;
    for (int function = 0; function < 6 && left > 0; function++) {
      boolean last = left <= 14;
      for (int place = 0; place < (last ? left : 13); place++) {
        server.instr(function, 0, 0, 1, 0);
      }
      if (!last) {
        server.instr(function, 11, function + 1, 0, 0);
      }
      left -= last ? left : 14;
    }
    return server;
  }

  private static void sixtyInstructions() {
    Check.sentence("has 60 instructions at most");
    for (int instructions = 1; instructions <= 60; instructions++) {
      QuakeServer server = doing(instructions);
      Check.due("instructions", instructions, server.run(0, 0, 0));
      Check.due("no runaway at " + instructions, 0, server.count(3));
    }
    for (int instructions = 61; instructions <= 79; instructions++) {
      QuakeServer server = doing(instructions);
      Check.due("at most 60", 60, server.run(0, 0, 0));
      Check.due("a runaway at " + instructions, 1, server.count(3));
      Check.due("the next run has 60 of its own", 60, server.run(0, 0, 0));
      Check.due("another", 2, server.count(3));
      Check.due("they are runs too", 2, server.count(5));
    }
  }

  private static void sixtyInALoop() {
    Check.sentence("has 60 instructions at most");
    // 2 instructions, then 4 for each round but the last, which has 2.
    int[][] rounds = {{14, 56, 0}, {15, 60, 0}, {16, 60, 1}, {100, 60, 1}};
    for (int[] round : rounds) {
      QuakeServer server = new QuakeServer();
      server.instr(0, 0, 0, round[0], 1);
      server.instr(0, 0, 0, 1, 2);
      server.instr(0, 2, 1, 2, 1);
      server.instr(0, 9, 1, 13, 0);
      server.instr(0, 1, 3, 2, 3);
      server.instr(0, 10, 0, 2, 0);
      Check.due("instructions of " + round[0] + " rounds", round[1], server.run(0, 0, 0));
      Check.due("runaways of " + round[0] + " rounds", round[2], server.count(3));
    }
    for (int last = 0; last < 3; last++) {
      // The 60th of the run is a jump behind the end, an end, or a call of nothing.
      QuakeServer server = new QuakeServer();
      int[] ops = {10, 16, 11};
      for (int made = 0; made < 4; made++) {
        server.instr(0, 11, made == 3 ? 2 : 1, 0, 0);
      }
      server.instr(0, ops[last], 5, 13, 0);
      for (int made = 0; made < 14; made++) {
        server.instr(1, 15, 0, 0, 0);
        if (made < 13) {
          server.instr(2, 15, 0, 0, 0);
        }
      }
      Check.due("4 calls, 42 and 13 called, and one", 60, server.run(0, 0, 0));
      Check.due("no runaway with " + ops[last] + " as the last", 0, server.count(3));
      server.instr(2, 15, 0, 0, 0);
      Check.due("one more before it", 60, server.run(0, 0, 0));
      Check.due("a runaway then", 1, server.count(3));
    }
  }

  /** Each function from 0 on calls the next, so many times in all. */
  private static QuakeServer calling(int deep) {
    QuakeServer server = new QuakeServer();
    for (int function = 0; function < deep; function++) {
      server.instr(function, 11, function + 1, 0, 0);
    }
    return server;
  }

  private static void fiveDeep() {
    Check.sentence("and calls at most 5 deep within the first");
    for (int deep = 0; deep <= 5; deep++) {
      QuakeServer server = calling(deep);
      server.instr(deep, 0, 0, 5, 5);
      for (int function = 0; function < deep; function++) {
        server.instr(function, 0, 0, 6, 6 + function);
      }
      Check.due("calls, one there, and one behind each", deep * 2 + 1, server.run(0, 0, 0));
      Check.due("done there", 5, server.global(5));
      for (int function = 0; function < deep; function++) {
        Check.due("done behind the call", 6, server.global(6 + function));
      }
      Check.due("no runaway", 0, server.count(3));
    }
    QuakeServer empty = calling(5);
    Check.due("an empty function five deep", 5, empty.run(0, 0, 0));
    Check.due("no runaway", 0, empty.count(3));
    QuakeServer six = calling(5);
    six.instr(5, 11, 0, 0, 0);
    six.instr(5, 0, 0, 7, 7);
    six.instr(0, 0, 0, 7, 8);
    Check.due("the sixth call is done, and the last", 6, six.run(0, 0, 0));
    Check.due("a runaway", 1, six.count(3));
    Check.due("nothing behind it", 0, six.global(7));
    Check.due("nor behind the first call", 0, six.global(8));
    Check.due("from function 1 on it is the fifth, then the sixth", 6, six.run(1, 0, 0));
    Check.due("a runaway too", 2, six.count(3));
    QuakeServer self = new QuakeServer();
    self.instr(3, 11, 3, 0, 0);
    Check.due("one that calls itself", 6, self.run(3, 0, 0));
    Check.due("is a runaway", 1, self.count(3));
  }

  private static void manyCallsInTurn() {
    Check.sentence("and calls at most 5 deep within the first");
    QuakeServer inTurn = new QuakeServer();
    for (int place = 0; place < 14; place++) {
      inTurn.instr(0, 11, 1, 0, 0);
    }
    inTurn.instr(1, 16, 0, 0, 0);
    Check.due("calls in turn are not deep", 28, inTurn.run(0, 0, 0));
    Check.due("no runaway", 0, inTurn.count(3));
    QuakeServer last = new QuakeServer();
    for (int function = 0; function < 5; function++) {
      last.instr(function, 0, 0, 1, 1);
      last.instr(function, 11, function + 1, 0, 0);
    }
    for (int place = 0; place < 14; place++) {
      last.instr(5, 15, 0, 0, 0);
    }
    Check.due("five deep by the last instructions", 24, last.run(0, 0, 0));
    Check.due("no runaway", 0, last.count(3));
  }

  private static void overAsItIs() {
    Check.sentence("beyond that the run is over as it is: a RUNAWAY.");
    QuakeServer loop = new QuakeServer();
    loop.instr(0, 1, 0, 1, 0);
    loop.instr(0, 10, 0, 0, 0);
    loop.setGlobal(1, 8);
    Check.due("60", 60, loop.run(0, 0, 0));
    Check.due("what 30 rounds have made stays", 240, loop.global(0));
    QuakeServer deep = new QuakeServer();
    deep.instr(0, 12, 0, 0, 0);
    deep.instr(0, 11, 0, 0, 0);
    Check.due("six times two", 12, deep.run(0, 0, 0));
    Check.due("those that were made stay", 6, deep.count(0));
    Check.due("one runaway", 1, deep.count(3));
    Check.due("a run behind it begins anew", 12, deep.run(0, 0, 0));
    Check.due("all 12 are there", 12, deep.count(0));
    Check.due("an empty run behind it", 0, deep.run(1, 0, 0));
    Check.due("is none", 2, deep.count(3));
  }

  private static void selfAndOther() {
    Check.sentence("For a run with self and other: the globals 20 and 21 become these");
    QuakeServer server = new QuakeServer();
    Scene.noting(server, 0);
    for (int[] pair : new int[][] {{0, 11}, {11, 0}, {-1, 5}, {5, -1}, {-1, -1}, {7, 7}}) {
      server.run(0, pair[0], pair[1]);
      Check.due("self", pair[0] * 8, server.global(0));
      Check.due("other", pair[1] * 8, server.global(1));
    }
  }

  private static void time() {
    Check.sentence("22 becomes the TIME, T(0) at first");
    QuakeServer server = new QuakeServer();
    Scene.noting(server, 0);
    server.setGlobal(22, 99);
    server.run(0, 0, 0);
    Check.due("at first", 0, server.global(2));
    Check.due("and it stays so", 0, server.global(22));
    server.tick(4);
    Check.due("a tick alone leaves it", 0, server.global(22));
    server.run(0, 0, 0);
    Check.due("behind four ticks", 4, server.global(2));
    server.instr(1, 0, 0, 35, 22);
    server.run(1, 0, 0);
    Check.due("what the run makes of it stays", 35, server.global(22));
    server.run(5, 0, 0);
    Check.due("a run without instructions", 4, server.global(22));
  }

  private static void asTheyWereBefore() {
    Check.sentence("behind it 20 and 21 are again what they were before.");
    QuakeServer server = new QuakeServer();
    server.instr(0, 0, 0, 33, 20);
    server.instr(0, 0, 0, 34, 21);
    server.instr(1, 11, 1, 0, 0);
    server.instr(2, 10, 0, 0, 0);
    server.setGlobal(20, 131072);
    server.setGlobal(21, -131072);
    int[] done = {2, 6, 60, 0};
    for (int function = 0; function < 4; function++) {
      Check.due("run", done[function], server.run(function, 4, 5));
      Check.due("20 behind function " + function, 131072, server.global(20));
      Check.due("21 behind function " + function, -131072, server.global(21));
    }
  }

  private static void instructionsDone() {
    Check.sentence("how many instructions were done.");
    QuakeServer server = new QuakeServer();
    Check.due("of an empty function", 0, server.run(0, 0, 0));
    Check.due("it is no run that did something", 0, server.count(5));
    server.instr(0, 16, 0, 0, 0);
    Check.due("of one instruction", 1, server.run(0, 0, 0));
    Check.due("it is one", 1, server.count(5));
  }

  private static void outOfRange() {
    Check.sentence("IllegalArgumentException: out of range.");
    QuakeServer server = new QuakeServer();
    for (int function = 0; function < 6; function++) {
      server.instr(function, 15, 0, 0, 0);
    }
    for (int wrong : new int[] {-1, 6, Integer.MIN_VALUE, Integer.MAX_VALUE}) {
      Check.argument("function " + wrong, () -> server.run(wrong, 0, 0));
    }
    for (int wrong : new int[] {-2, 12, Integer.MIN_VALUE, Integer.MAX_VALUE}) {
      Check.argument("self " + wrong, () -> server.run(0, wrong, 0));
      Check.argument("other " + wrong, () -> server.run(0, 0, wrong));
    }
    Check.due("nothing was drawn", 1, server.count(4));
    Check.due("nothing was run", 0, server.count(5));
    for (int function = 0; function < 6; function++) {
      Check.due("function " + function, 1, server.run(function, 0, 0));
    }
  }

  private static void thereOrNot() {
    Check.sentence("A run of a function (0 .. 5) with self and other (-1 .. 11, there or not)");
    for (int entities : new int[] {0, 1, 12}) {
      QuakeServer server = Scene.crowd(entities);
      server.instr(0, 15, 0, 0, 0);
      for (int number = -1; number < 12; number++) {
        Check.due("self " + number, 1, server.run(0, number, 0));
        Check.due("other " + number, 1, server.run(0, 0, number));
      }
    }
  }
}
