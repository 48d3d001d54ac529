/** The terms' ops 0 to 16, one instruction at a time, and the draws. */
public final class OpsTest {
  private static final int LEAST = -131072;
  private static final int GREATEST = 131072;
  // Numbers in eighths whose whole is no entity of two: below 0, behind the last, far away.
  private static final int[] NOBODY_OF_TWO = {LEAST, -9, -8, -1, 16, 17, 95, 96, GREATEST};

  public static void main(String[] args) {
    written();
    sums();
    less();
    equal();
    copies();
    sameGlobals();
    readFields();
    writeFields();
    goIfZero();
    goes();
    calls();
    creates();
    removes();
    firstBehind();
    ends();
    eachGoesOn();
    theWholeOfA();
    nobody();
    draws();
    drawsInEighths();
    Check.end();
  }

  private static void written() {
    Check.sentence("0: C becomes b eighths.");
    for (int eighths : new int[] {-16000, -1, 0, 1, 16000}) {
      QuakeServer server = new QuakeServer();
      server.setGlobal(23, 55);
      server.instr(0, 0, 99, eighths, 23);
      server.run(0, 0, 0);
      Check.due("written", eighths, server.global(23));
    }
  }

  private static void sums() {
    Check.sentence("1 C becomes T(A + B), 2 T(A - B), 3 T(A * B).");
    Check.due("add", -3, Scene.op(1, 4, -7));
    Check.due("subtract", 11, Scene.op(2, 4, -7));
    Check.due("2 * 3", 48, Scene.op(3, 16, 24));
    Check.due("add up to the limit", GREATEST, Scene.op(1, GREATEST, 1));
    Check.due("subtract down to the limit", LEAST, Scene.op(2, LEAST, 1));
    Check.due("multiply up to the limit", GREATEST, Scene.op(3, LEAST, LEAST));
    Check.due("multiply down to an eighth", -1, Scene.op(3, -1, 1));
  }

  private static void less() {
    Check.sentence("4: C becomes 1 if A is less than B, else 0.");
    Check.due("an eighth less", 8, Scene.op(4, -1, 0));
    Check.due("equal", 0, Scene.op(4, 3, 3));
    Check.due("an eighth more", 0, Scene.op(4, 4, 3));
    Check.due("least and greatest", 8, Scene.op(4, LEAST, GREATEST));
    Check.due("greatest and least", 0, Scene.op(4, GREATEST, LEAST));
    Check.due("greatest and greatest", 0, Scene.op(4, GREATEST, GREATEST));
  }

  private static void equal() {
    Check.sentence("5: likewise if they are equal.");
    Check.due("equal", 8, Scene.op(5, 3, 3));
    Check.due("an eighth less", 0, Scene.op(5, 3, 4));
    Check.due("an eighth more", 0, Scene.op(5, 4, 3));
    Check.due("the other sign", 0, Scene.op(5, -3, 3));
    Check.due("both greatest", 8, Scene.op(5, GREATEST, GREATEST));
    Check.due("greatest and least", 0, Scene.op(5, GREATEST, LEAST));
  }

  private static void copies() {
    Check.sentence("6 C becomes A.");
    for (int eighths : new int[] {LEAST, -9, 0, 9, GREATEST}) {
      Check.due("copy", eighths, Scene.op(6, eighths, 3));
    }
  }

  private static void sameGlobals() {
    Check.sentence("\"A\" stands for the global a.");
    int[][] ops = {{1, 40}, {2, 0}, {3, 50}, {4, 0}, {5, 8}, {6, 20}};
    for (int[] op : ops) {
      QuakeServer server = new QuakeServer();
      server.setGlobal(23, 20);
      server.instr(0, op[0], 23, 23, 23);
      server.run(0, 0, 0);
      Check.due("op " + op[0] + " of a global with itself", op[1], server.global(23));
    }
  }

  private static void readFields() {
    Check.sentence("7 C becomes the field b of the entity A.");
    QuakeServer server = Scene.crowd(12);
    for (int field : new int[] {0, 15}) {
      server.instr(field == 0 ? 0 : 1, 7, 0, field, 1);
      server.set(0, field, 16384);
      server.set(11, field, -16384);
    }
    for (int function = 0; function < 2; function++) {
      server.setGlobal(0, 0);
      server.run(function, 0, 0);
      Check.due("of the first", GREATEST, server.global(1));
      server.setGlobal(0, 95);
      server.run(function, 0, 0);
      Check.due("of the last", LEAST, server.global(1));
      server.setGlobal(0, 87);
      server.run(function, 0, 0);
      Check.due("of the last but one", 0, server.global(1));
    }
  }

  private static void writeFields() {
    Check.sentence("8 the field b of the entity A becomes C.");
    QuakeServer server = Scene.crowd(12);
    server.instr(0, 8, 0, 0, 1);
    server.instr(1, 8, 0, 15, 1);
    for (int function = 0; function < 2; function++) {
      int field = function == 0 ? 0 : 15;
      server.setGlobal(0, 7);
      server.setGlobal(1, GREATEST);
      server.run(function, 0, 0);
      Check.due("of the first", 16384, server.get(0, field));
      server.setGlobal(0, 95);
      server.setGlobal(1, LEAST);
      server.run(function, 0, 0);
      Check.due("of the last", -16384, server.get(11, field));
      Check.due("not of another", 0, server.get(1, field));
      Check.due("not another", 0, server.get(0, 14));
      Check.due("C stays", LEAST, server.global(1));
    }
  }

  private static void goIfZero() {
    Check.sentence("9: goes to b if A is 0.");
    for (int a : new int[] {LEAST, -1, 0, 1, GREATEST}) {
      QuakeServer server = new QuakeServer();
      server.setGlobal(0, a);
      server.instr(0, 9, 0, 2, 0);
      server.instr(0, 0, 0, 7, 1);
      server.instr(0, 0, 0, 8, 2);
      Check.due("instructions with A " + a, a == 0 ? 2 : 3, server.run(0, 0, 0));
      Check.due("left out or not", a == 0 ? 0 : 7, server.global(1));
      Check.due("gone on from b", 8, server.global(2));
    }
    Check.due("to itself, for ever", 60, jump(9, 0, 1));
    Check.due("to the last place of 14", 2, jump(9, 13, 14));
    Check.due("behind the last instruction", 1, jump(9, 13, 13));
  }

  private static void goes() {
    Check.sentence("10: goes");
    Check.due("to itself, for ever", 60, jump(10, 0, 1));
    Check.due("to the next", 14, jump(10, 1, 14));
    Check.due("to the last place of 14", 2, jump(10, 13, 14));
    Check.due("behind the last instruction", 1, jump(10, 13, 13));
    QuakeServer back = new QuakeServer();
    back.instr(2, 2, 0, 1, 0);
    back.instr(2, 9, 0, 3, 0);
    back.instr(2, 10, 0, 0, 0);
    back.instr(2, 0, 0, 9, 3);
    back.setGlobal(0, 24);
    back.setGlobal(1, 8);
    Check.due("back to the first until A is 0: 3, 3, 2 and the last", 9, back.run(2, 0, 0));
    Check.due("and on", 9, back.global(3));
  }

  /** How many instructions a function of this length does whose first one is the jump. */
  private static int jump(int op, int place, int length) {
    QuakeServer server = new QuakeServer();
    server.instr(0, op, 0, place, 0);
    for (int made = 1; made < length; made++) {
      server.instr(0, 15, 0, 0, 1);
    }
    return server.run(0, 0, 0);
  }

  private static void calls() {
    Check.sentence("11: calls the function a.");
    for (int called = 1; called < 6; called++) {
      QuakeServer server = new QuakeServer();
      server.instr(0, 11, called, 0, 0);
      server.instr(0, 6, 5, 0, 6);
      server.instr(called, 0, 0, 9, 5);
      Check.due("the call, what is there, and what is behind it", 3, server.run(0, 0, 0));
      Check.due("behind the call, behind the called", 9, server.global(6));
    }
    QuakeServer server = new QuakeServer();
    server.instr(0, 11, 5, 0, 0);
    server.instr(0, 0, 0, 8, 8);
    Check.due("a call of an empty function", 2, server.run(0, 0, 0));
    Check.due("goes on behind it", 8, server.global(8));
  }

  private static void creates() {
    Check.sentence("12: C becomes the number of a new entity, the least one that is not there; "
        + "-1 without one.");
    QuakeServer server = new QuakeServer();
    server.instr(0, 12, 0, 0, 0);
    for (int number = 0; number < 12; number++) {
      server.run(0, 0, 0);
      Check.due("the new one's number", number * 8, server.global(0));
      Check.due("entities", number + 1, server.count(0));
    }
    server.run(0, 0, 0);
    Check.due("without one", -8, server.global(0));
    Check.due("entities still", 12, server.count(0));
    for (int gone : new int[] {11, 4, 0}) {
      server.remove(gone);
    }
    for (int number : new int[] {0, 4, 11, -1}) {
      server.run(0, 0, 0);
      Check.due("the least one", number * 8, server.global(0));
    }
  }

  private static void removes() {
    Check.sentence("13: the entity A is removed.");
    QuakeServer server = Scene.crowd(12);
    server.instr(0, 13, 0, 0, 0);
    int left = 12;
    for (int eighths : new int[] {0, 15, 95}) {
      server.setGlobal(0, eighths);
      server.run(0, 0, 0);
      left--;
      Check.missing("the entity", () -> server.get(eighths / 8, 0));
      Check.due("the others stay", left, server.count(0));
      Check.due("A stays", eighths, server.global(0));
    }
  }

  private static void firstBehind() {
    Check.sentence("14: C becomes the number of the first entity that is there behind number A, "
        + "-1 without one.");
    QuakeServer empty = new QuakeServer();
    QuakeServer full = Scene.crowd(12);
    QuakeServer some = Scene.crowd(12);
    for (int gone : new int[] {0, 2, 3, 11}) {
      some.remove(gone);
    }
    int[][] numbers = {
      // A; what is due when nobody is there, when all are, and when 0, 2, 3 and 11 are not
      {LEAST, -8, 0, 8}, {-8, -8, 0, 8}, {-1, -8, 0, 8}, {0, -8, 8, 8}, {7, -8, 8, 8}, {8, -8, 16, 32},
      {15, -8, 16, 32}, {16, -8, 24, 32}, {24, -8, 32, 32}, {31, -8, 32, 32}, {32, -8, 40, 40},
      {79, -8, 80, 80}, {80, -8, 88, -8}, {87, -8, 88, -8}, {88, -8, -8, -8}, {95, -8, -8, -8},
      {96, -8, -8, -8}, {GREATEST, -8, -8, -8}
    };
    QuakeServer[] servers = {empty, full, some};
    for (int which = 0; which < 3; which++) {
      servers[which].instr(0, 14, 0, 0, 1);
      for (int[] n : numbers) {
        servers[which].setGlobal(0, n[0]);
        servers[which].run(0, 0, 0);
        Check.due("first behind " + n[0] + " eighths", n[which + 1], servers[which].global(1));
      }
    }
  }

  private static void ends() {
    Check.sentence("16 the function is over.");
    QuakeServer server = new QuakeServer();
    server.instr(0, 11, 1, 0, 0);
    server.instr(0, 0, 0, 4, 4);
    server.instr(1, 16, 0, 0, 0);
    server.instr(1, 0, 0, 6, 6);
    Check.due("an end in the first function", 1, server.run(1, 0, 0));
    Check.due("the call, the end, and on behind the call", 3, server.run(0, 0, 0));
    Check.due("behind the call", 4, server.global(4));
    Check.due("not behind the end", 0, server.global(6));
    Check.due("no runaway", 0, server.count(3));
  }

  private static void eachGoesOn() {
    Check.sentence("FUNCTIONS 0 .. 5 have up to 14 INSTRUCTIONS (op, a, b, c), numbered from 0");
    for (int op = 0; op <= 16; op++) {
      for (int entities : new int[] {0, 1, 12}) {
        QuakeServer server = Scene.crowd(entities);
        server.setGlobal(1, 8);
        server.instr(0, op, 1, 1, 2);
        server.instr(0, 0, 0, 9, 9);
        Check.due("op " + op + " and what is behind it", op == 16 ? 1 : 2, server.run(0, 0, 0));
        Check.due("behind op " + op, op == 16 ? 0 : 9, server.global(9));
        Check.due("op " + op + " is no runaway", 0, server.count(3));
      }
    }
  }

  private static void theWholeOfA() {
    Check.sentence("(The entity A is that with the number that is the whole of A;");
    for (int eighths : new int[] {0, 1, 7, 8, 15, 16, 87, 88, 95}) {
      int whole = eighths / 8;
      QuakeServer server = Scene.crowd(12);
      server.set(whole, 7, 5);
      server.setGlobal(0, eighths);
      server.instr(0, 7, 0, 7, 1);
      server.instr(0, 8, 0, 15, 1);
      server.instr(0, 13, 0, 0, 0);
      server.instr(1, 7, 0, 7, 1);
      server.instr(1, 8, 0, 15, 1);
      server.run(1, 0, 0);
      Check.due("the field of " + whole, 40, server.global(1));
      Check.due("is written to " + whole, 5, server.get(whole, 15));
      server.run(0, 0, 0);
      Check.missing("the entity " + whole, () -> server.get(whole, 0));
      Check.due("the others are there", 11, server.count(0));
    }
  }

  private static void nobody() {
    Check.sentence("one that is not there: 7 gives 0, 8 and 13 do nothing.)");
    QuakeServer server = Scene.crowd(3);
    server.set(2, 0, 5);
    server.remove(2);
    server.instr(0, 7, 0, 0, 1);
    server.instr(1, 8, 0, 0, 2);
    server.instr(2, 13, 0, 0, 0);
    server.setGlobal(2, 77);
    for (int number : NOBODY_OF_TWO) {
      server.setGlobal(0, number);
      server.setGlobal(1, 99);
      Check.due("a read is done", 1, server.run(0, 0, 0));
      Check.due("what it reads", 0, server.global(1));
      Check.due("a write is done", 1, server.run(1, 0, 0));
      Check.due("a removal is done", 1, server.run(2, 0, 0));
      Check.due("nobody comes or goes", 2, server.count(0));
    }
    Check.due("nothing was written to 0", 0, server.get(0, 0));
    Check.due("nothing was written to 1", 0, server.get(1, 0));
    server.spawn(0, 0, 0);
    Check.due("nothing was kept for 2", 0, server.get(2, 0));
  }

  private static void draws() {
    Check.sentence("A DRAW: the state s, 1 at first, becomes (s * 1103515245 + 12345) mod "
        + "2147483648; the draw is s / 65536, rounded down, mod 8.");
    QuakeServer server = new QuakeServer();
    server.instr(0, 15, 0, 0, 23);
    // The row is known: it is that of the C standard's own example, whose numbers are s / 65536.
    int[] row = {16838, 5758, 10113, 17515, 31051, 5627, 23010, 7419, 16212, 4086};
    for (int number : row) {
      server.run(0, 0, 0);
      Check.due("s / 65536", number, server.count(4) / 65536);
      Check.due("the draw, in eighths", number % 8, server.global(23));
    }
    long state = server.count(4);
    for (int drawn = 0; drawn < 150; drawn++) {
      state = (state * 1103515245L + 12345L) % 2147483648L;
      server.run(0, 0, 0);
      Check.due("state of the draws", state, server.count(4));
      Check.due("the draw, in eighths", state / 65536 % 8, server.global(23));
    }
  }

  private static void drawsInEighths() {
    Check.sentence("15: a draw: C becomes so many eighths.");
    QuakeServer server = Scene.crowd(1);
    server.instr(0, 15, 0, 0, 0);
    server.instr(0, 8, 20, 12, 0);
    int least = 8;
    int greatest = -1;
    for (int drawn = 0; drawn < 100; drawn++) {
      server.run(0, 0, 0);
      Check.due("the draw as a double", server.global(0) / 8.0, server.get(0, 12));
      least = Math.min(least, server.global(0));
      greatest = Math.max(greatest, server.global(0));
    }
    Check.due("the least draw", 0, least);
    Check.due("the greatest draw", 7, greatest);
  }
}
