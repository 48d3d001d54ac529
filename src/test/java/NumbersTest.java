/** The terms' numbers: their range, T, eighths and the whole. */
public final class NumbersTest {
  private static final int LEAST = -131072;
  private static final int GREATEST = 131072;

  public static void main(String[] args) {
    greatestAndLeast();
    downToAnEighth();
    broughtIntoTheRange();
    productsDoNotWrapAround();
    eighthsAndDoubles();
    wholes();
    Check.end();
  }

  private static void greatestAndLeast() {
    Check.sentence("NUMBERS are multiples of an EIGHTH from -16384 to 16384.");
    QuakeServer server = new QuakeServer();
    server.spawn(16384, -16384, 0.125);
    Check.due("the greatest", 16384, server.get(0, 0));
    Check.due("the least", -16384, server.get(0, 1));
    Check.due("an eighth", 0.125, server.get(0, 4));
    server.set(0, 12, 16384);
    Check.due("the greatest set", 16384, server.set(0, 12, -16384));
    Check.due("the least set", -16384, server.set(0, 12, 16383.875));
    Check.due("an eighth below the greatest", 16383.875, server.set(0, 12, -16383.875));
    Check.due("an eighth above the least", -16383.875, server.set(0, 12, -0.125));
    Check.due("an eighth below 0", -0.125, server.get(0, 12));
    Check.argument("above the greatest", () -> server.set(0, 12, 16384.125));
    Check.argument("below the least", () -> server.set(0, 12, -16384.125));
    server.setGlobal(0, GREATEST);
    Check.due("the greatest global", GREATEST, server.setGlobal(0, LEAST));
    Check.due("the least global", LEAST, server.global(0));
    Check.argument("a global above the greatest", () -> server.setGlobal(0, GREATEST + 1));
    Check.argument("a global below the least", () -> server.setGlobal(0, LEAST - 1));
  }

  private static void downToAnEighth() {
    Check.sentence("T(v) is the greatest multiple of an eighth that is at most v");
    int[][] products = {
      // two factors and their product, all in eighths
      {1, 1, 0}, {1, 7, 0}, {1, 8, 1}, {3, 5, 1}, {2, 8, 2}, {3, 6, 2}, {7, 9, 7}, {0, -1, 0},
      {-1, 1, -1}, {1, -1, -1}, {-1, 7, -1}, {-1, 8, -1}, {-1, 9, -2}, {-7, 9, -8}, {-2, 8, -2},
      {-1, -1, 0}, {-1, -7, 0}, {-1, -8, 1}, {-3, -5, 1}
    };
    for (int[] p : products) {
      Check.due(p[0] + " * " + p[1] + " eighths", p[2], Scene.op(3, p[0], p[1]));
    }
  }

  private static void broughtIntoTheRange() {
    Check.sentence("then brought into this range.");
    int[][] sums = {
      {GREATEST - 1, 1, GREATEST}, {GREATEST, 1, GREATEST}, {GREATEST, GREATEST, GREATEST},
      {LEAST + 1, -1, LEAST}, {LEAST, -1, LEAST}, {LEAST, LEAST, LEAST}, {LEAST, GREATEST, 0},
      {GREATEST - 1, 0, GREATEST - 1}, {LEAST + 1, 0, LEAST + 1}
    };
    for (int[] s : sums) {
      Check.due(s[0] + " + " + s[1] + " eighths", s[2], Scene.op(1, s[0], s[1]));
      Check.due(s[0] + " - " + -s[1] + " eighths", s[2], Scene.op(2, s[0], -s[1]));
    }
    int[][] products = {
      {GREATEST, 8, GREATEST}, {GREATEST, 9, GREATEST}, {GREATEST, -8, LEAST}, {GREATEST, -9, LEAST},
      {LEAST, 8, LEAST}, {LEAST, 9, LEAST}, {LEAST, -8, GREATEST}, {LEAST, -9, GREATEST},
      {GREATEST - 1, 8, GREATEST - 1}, {LEAST + 1, 8, LEAST + 1}, {GREATEST, 7, 114688}
    };
    for (int[] p : products) {
      Check.due(p[0] + " * " + p[1] + " eighths", p[2], Scene.op(3, p[0], p[1]));
    }
  }

  private static void productsDoNotWrapAround() {
    Check.sentence("3 T(A * B)");
    int[][] products = {
      // an int would become 0, or change its sign, on the way
      {GREATEST, GREATEST, GREATEST}, {GREATEST, LEAST, LEAST}, {LEAST, LEAST, GREATEST},
      {65536, 65536, GREATEST}, {32768, 65536, GREATEST}, {-32768, 65537, LEAST},
      {46341, 46341, GREATEST}, {-46341, 46341, LEAST}, {GREATEST, 32769, GREATEST}
    };
    for (int[] p : products) {
      Check.due(p[0] + " * " + p[1] + " eighths", p[2], Scene.op(3, p[0], p[1]));
    }
  }

  private static void eighthsAndDoubles() {
    Check.sentence("In calls and answers numbers stand in eighths, but where double is told.");
    QuakeServer server = new QuakeServer();
    server.spawn(1.5, -2.125, 3);
    server.instr(0, 7, 20, 0, 0);
    server.instr(0, 7, 20, 1, 1);
    server.instr(0, 8, 20, 12, 2);
    server.instr(0, 0, 0, -3, 3);
    server.instr(0, 8, 20, 13, 3);
    server.setGlobal(2, 9);
    server.tick(3);
    server.run(0, 0, -1);
    Check.due("1.5 in eighths", 12, server.global(0));
    Check.due("-2.125 in eighths", -17, server.global(1));
    Check.due("9 eighths as a double", 1.125, server.get(0, 12));
    Check.due("-3 eighths as a double", -0.375, server.get(0, 13));
    Check.due("the time in eighths", 3, server.count(2));
    Check.due("global 22 in eighths", 3, server.global(22));
  }

  private static void wholes() {
    Check.sentence("THE WHOLE of a number is the greatest integer that is at most it.");
    QuakeServer server = new QuakeServer();
    for (int entity = 0; entity < 12; entity++) {
      server.spawn(entity + 1, 0, 0);
    }
    server.instr(0, 7, 0, 0, 1);
    int[][] wholes = {
      // eighths, and the X of the entity with that number, 0 for nobody
      {-16, 0}, {-9, 0}, {-8, 0}, {-7, 0}, {-1, 0}, {0, 1}, {1, 1}, {7, 1}, {8, 2}, {15, 2}, {16, 3},
      {87, 11}, {88, 12}, {95, 12}, {96, 0}, {LEAST, 0}, {GREATEST, 0}
    };
    for (int[] whole : wholes) {
      server.setGlobal(0, whole[0]);
      server.run(0, 0, 0);
      Check.due("X of the entity " + whole[0] + " eighths", whole[1] * 8, server.global(1));
    }
  }
}
