/** Promise 15: count. */
public final class CountTest {
  public static void main(String[] args) {
    QuakeServer server = new QuakeServer();
    for (int what : new int[] {-1, 7, Integer.MIN_VALUE, Integer.MAX_VALUE}) {
      Check.argument("count " + what, () -> server.count(what));
    }
    server.wall(50, -5, 51, 5);
    server.wall(60, -5, 61, 5);
    counts(server, "two walls", 0, 2, 0, 0, 1, 0, 0);
    server.spawn(0, 0, 1);
    counts(server, "an entity", 1, 2, 0, 0, 1, 0, 0);
    server.tick(3);
    counts(server, "three ticks", 1, 2, 3, 0, 1, 0, 0);
    server.instr(0, 10, 0, 0, 0);
    server.instr(1, 15, 0, 0, 0);
    server.run(0, 0, 0);
    counts(server, "a runaway", 1, 2, 3, 1, 1, 1, 0);
    server.run(1, 0, 0);
    counts(server, "a draw", 1, 2, 3, 1, 1103527590, 2, 0);
    server.run(2, 0, 0);
    counts(server, "a run of nothing", 1, 2, 3, 1, 1103527590, 2, 0);
    server.set(0, 6, 1);
    server.set(0, 2, 800);
    server.set(0, 8, 1);
    server.tick(1);
    counts(server, "a hit with a runaway", 1, 2, 4, 2, 1103527590, 3, 1);
    server.remove(0);
    server.message();
    counts(server, "nobody", 0, 2, 4, 2, 1103527590, 3, 1);
    Check.end();
  }

  private static void counts(QuakeServer server, String when, int... due) {
    for (int what = 0; what < due.length; what++) {
      Check.due("count(" + what + ") with " + when, due[what], server.count(what));
    }
  }
}
