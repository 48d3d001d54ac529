/** Promise 2: wall. */
public final class WallTest {
  private static final String[] SIDES = {"x1", "y1", "x2", "y2"};

  public static void main(String[] args) {
    numbersRise();
    sidesInTheWorld();
    firstSidesBelowSecond();
    fullOfWalls();
    wrongSidesAreTestedFirst();
    aWallStandsWhereItWasPut();
    wallsAtTheEdgesOfTheWorld();
    Check.end();
  }

  private static void numbersRise() {
    Check.sentence("Adds a wall; answers its number.");
    QuakeServer server = new QuakeServer();
    for (int number = 0; number < 6; number++) {
      Check.due("wall " + number, number, server.wall(-1024, -1024, 1024, 1024));
      Check.due("walls", number + 1, server.count(1));
    }
  }

  private static void sidesInTheWorld() {
    Check.sentence("IllegalArgumentException: a number not -1024 .. 1024");
    int[][] right = {
      {-1024, 0, 1, 1}, {0, -1024, 1, 1}, {0, 0, 1024, 1}, {0, 0, 1, 1024},
      {1023, 0, 1024, 1}, {0, 1023, 1, 1024}, {-1024, 0, -1023, 1}, {0, -1024, 1, -1023}
    };
    for (int[] w : right) {
      Check.due("wall", 0, new QuakeServer().wall(w[0], w[1], w[2], w[3]));
    }
    for (int side = 0; side < 4; side++) {
      // A first side that is too great has a second behind it, and so the other way round:
      // so it is refused for its place in the world alone.
      int beyond = side < 2 ? side + 2 : side - 2;
      refused(side, -1025, beyond, side < 2 ? 1 : -1026);
      refused(side, Integer.MIN_VALUE, beyond, side < 2 ? 1 : Integer.MIN_VALUE);
      refused(side, 1025, beyond, side < 2 ? 1026 : 0);
      refused(side, Integer.MAX_VALUE, beyond, side < 2 ? Integer.MAX_VALUE : 0);
    }
  }

  /** The wall (0, 0, 1, 1) with two of its sides put elsewhere. */
  private static void refused(int side, int value, int otherSide, int otherValue) {
    QuakeServer server = new QuakeServer();
    int[] w = {0, 0, 1, 1};
    w[side] = value;
    w[otherSide] = otherValue;
    Check.argument(SIDES[side] + " " + value, () -> server.wall(w[0], w[1], w[2], w[3]));
    Check.due("no wall was added", 0, server.count(1));
  }

  private static void firstSidesBelowSecond() {
    QuakeServer server = new QuakeServer();
    Check.sentence("or x1 not below x2");
    Check.argument("x1 at x2", () -> server.wall(5, 0, 5, 1));
    Check.argument("x1 behind x2", () -> server.wall(6, 0, 5, 1));
    Check.argument("x1 far behind x2", () -> server.wall(1024, 0, -1024, 1));
    Check.due("x1 just below x2", 0, server.wall(4, 0, 5, 1));
    Check.sentence("or y1 not below y2");
    Check.argument("y1 at y2", () -> server.wall(0, 5, 1, 5));
    Check.argument("y1 behind y2", () -> server.wall(0, 6, 1, 5));
    Check.argument("y1 far behind y2", () -> server.wall(0, 1024, 1, -1024));
    Check.due("y1 just below y2", 1, server.wall(0, 4, 1, 5));
    Check.argument("both", () -> server.wall(0, 0, 0, 0));
    Check.due("no other wall was added", 2, server.count(1));
  }

  private static QuakeServer full() {
    QuakeServer server = new QuakeServer();
    for (int number = 0; number < 6; number++) {
      server.wall(0, 0, 1, 1);
    }
    return server;
  }

  private static void fullOfWalls() {
    Check.sentence("IllegalStateException: 6 are there.");
    QuakeServer server = full();
    Check.state("a seventh wall", () -> server.wall(0, 0, 1, 1));
    Check.state("once more", () -> server.wall(-1024, -1024, 1024, 1024));
    Check.due("walls still", 6, server.count(1));
  }

  private static void wrongSidesAreTestedFirst() {
    Check.sentence("What is thrown is told in the order of testing");
    QuakeServer server = full();
    Check.argument("a seventh wall out of the world", () -> server.wall(0, 0, 1025, 1));
    Check.argument("a seventh wall with x1 at x2", () -> server.wall(0, 0, 0, 1));
    Check.argument("a seventh wall with y1 at y2", () -> server.wall(0, 0, 1, 0));
  }

  /** A flyer at x, y with the velocities goes towards a wall: where it stops on the axis. */
  private static void stops(int[] wall, double[] flyer, int axis, double due) {
    QuakeServer server = Scene.flyer(flyer[0], flyer[1], flyer[2], flyer[3]);
    server.wall(wall[0], wall[1], wall[2], wall[3]);
    server.tick(1);
    Check.due("stopped at the wall", due, server.get(0, axis));
    Check.due("hits", 1, server.count(6));
  }

  private static void aWallStandsWhereItWasPut() {
    Check.sentence("from x1 to x2 and y1 to y2");
    int[] wall = {-10, -21, 30, 40};
    stops(wall, new double[] {-40, 5, 800, 0}, 0, -11);
    stops(wall, new double[] {60, 5, -800, 0}, 0, 31);
    stops(wall, new double[] {5, -60, 0, 800}, 1, -22);
    stops(wall, new double[] {5, 70, 0, -800}, 1, 41);
  }

  private static void wallsAtTheEdgesOfTheWorld() {
    Check.sentence("WALLS are boxes 0 .. 5 of the world");
    int[] whole = {-1024, -1024, 1024, 1024};
    stops(whole, new double[] {-2000, 0, 16384, 0}, 0, -1025);
    stops(whole, new double[] {2000, 0, -16384, 0}, 0, 1025);
    stops(whole, new double[] {0, -2000, 0, 16384}, 1, -1025);
    stops(whole, new double[] {0, 2000, 0, -16384}, 1, 1025);
    QuakeServer server = Scene.flyer(0, 0, 800, 0);
    for (int number = 0; number < 5; number++) {
      server.wall(-1024, -1024, -1023, -1023);
    }
    Check.due("the last wall", 5, server.wall(50, -5, 51, 5));
    server.tick(1);
    Check.due("wall 5 stops as the others do", 49, server.get(0, 0));
  }
}
