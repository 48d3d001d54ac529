/** Promise 2: wall. */
public final class WallTest {
  public static void main(String[] args) {
    numbersRiseUntilFull();
    wrongSidesAreRefused();
    aWallStandsWhereItWasPut();
    Check.end();
  }

  private static void numbersRiseUntilFull() {
    QuakeServer server = new QuakeServer();
    for (int number = 0; number < 6; number++) {
      Check.due("wall " + number, number, server.wall(-1024, -1024, 1024, 1024));
      Check.due("walls", number + 1, server.count(1));
    }
    Check.state("a seventh wall", () -> server.wall(0, 0, 1, 1));
    Check.argument("a wrong seventh wall", () -> server.wall(0, 0, 0, 1));
    Check.due("walls still", 6, server.count(1));
  }

  private static void wrongSidesAreRefused() {
    QuakeServer server = new QuakeServer();
    int[][] wrong = {
      {-1025, 0, 1, 1}, {0, -1025, 1, 1}, {0, 0, 1025, 1}, {0, 0, 1, 1025},
      {1025, 0, 1026, 1}, {0, 1025, 1, 1026}, {-1026, 0, -1025, 1}, {0, -1026, 1, -1025},
      {5, 0, 5, 1}, {6, 0, 5, 1}, {0, 5, 1, 5}, {0, 6, 1, 5},
      {Integer.MIN_VALUE, 0, Integer.MAX_VALUE, 1}, {0, Integer.MIN_VALUE, 1, Integer.MAX_VALUE}
    };
    for (int[] w : wrong) {
      Check.argument("wall " + java.util.Arrays.toString(w),
          () -> server.wall(w[0], w[1], w[2], w[3]));
    }
    Check.due("no wall was added", 0, server.count(1));
    Check.due("the first number is still free", 0, server.wall(0, 0, 1, 1));
  }

  private static void aWallStandsWhereItWasPut() {
    // A runner on each side of the box goes towards it and is stopped at its side.
    double[][] runners = {
      // x, y, vx, vy, the axis, and where it stops on it
      {-40, 5, 800, 0, 0, -11}, {60, 5, -800, 0, 0, 31}, {5, -60, 0, 800, 1, -22}, {5, 70, 0, -800, 1, 41}
    };
    for (double[] r : runners) {
      QuakeServer server = new QuakeServer();
      server.wall(-10, -21, 30, 40);
      server.spawn(r[0], r[1], 1);
      server.set(0, 6, 1);
      server.set(0, 2, r[2]);
      server.set(0, 3, r[3]);
      server.tick(1);
      Check.due("stopped at the wall", r[5], server.get(0, (int) r[4]));
      Check.due("hits", 1, server.count(6));
    }
  }
}
