/** Promise 15: count. */
public final class CountTest {
  public static void main(String[] args) {
    anotherNumber();
    entities();
    walls();
    timeInEighths();
    runaways();
    stateOfTheDraws();
    runsThatDidSomething();
    hits();
    eachForItself();
    Check.end();
  }

  private static void anotherNumber() {
    Check.sentence("IllegalArgumentException: another number.");
    QuakeServer server = new QuakeServer();
    for (int what : new int[] {-1, 7, 8, Integer.MIN_VALUE, Integer.MAX_VALUE}) {
      Check.argument("count " + what, () -> server.count(what));
    }
    Check.due("count 0", 0, server.count(0));
    Check.due("count 6", 0, server.count(6));
  }

  private static void entities() {
    Check.sentence("Entities that are there (0)");
    for (int entities = 0; entities <= 12; entities++) {
      Check.due("entities", entities, Scene.crowd(entities).count(0));
    }
    QuakeServer server = Scene.crowd(12);
    for (int left = 11; left >= 0; left--) {
      server.remove(left);
      Check.due("entities left", left, server.count(0));
    }
  }

  private static void walls() {
    Check.sentence("walls (1)");
    QuakeServer server = new QuakeServer();
    for (int walls = 0; walls <= 6; walls++) {
      Check.due("walls", walls, server.count(1));
      if (walls < 6) {
        server.wall(walls, 0, 10, 10);
      }
    }
  }

  private static void timeInEighths() {
    Check.sentence("the time in eighths (2)");
    QuakeServer server = new QuakeServer();
    int time = 0;
    for (int n : new int[] {1, 4, 2, 3, 4}) {
      server.tick(n);
      time += n;
      Check.due("time", time, server.count(2));
    }
  }

  private static void runaways() {
    Check.sentence("runaways so far (3)");
    QuakeServer server = Scene.crowd(1);
    server.instr(0, 10, 0, 0, 0);
    server.instr(1, 11, 1, 0, 0);
    server.instr(2, 16, 0, 0, 0);
    server.run(2, 0, 0);
    server.run(3, 0, 0);
    Check.due("none", 0, server.count(3));
    server.run(0, 0, 0);
    Check.due("of too many instructions", 1, server.count(3));
    server.run(1, 0, 0);
    Check.due("of too deep calls", 2, server.count(3));
    server.set(0, Scene.THINK, 1);
    server.set(0, Scene.NEXT, 0.125);
    server.tick(1);
    Check.due("in a tick", 3, server.count(3));
  }

  private static void stateOfTheDraws() {
    Check.sentence("the state of the draws (4)");
    QuakeServer server = new QuakeServer();
    server.instr(0, 15, 0, 0, 0);
    for (int state : new int[] {1, 1103527590, 377401575}) {
      Check.due("state", state, server.count(4));
      server.run(0, 0, 0);
    }
  }

  private static void runsThatDidSomething() {
    Check.sentence("runs so far that did at least one instruction (5)");
    QuakeServer server = Scene.crowd(1);
    server.run(0, 0, 0);
    Check.due("an empty function", 0, server.count(5));
    server.instr(0, 16, 0, 0, 0);
    server.run(0, 0, 0);
    Check.due("one instruction", 1, server.count(5));
    server.instr(1, 11, 0, 0, 0);
    server.run(1, 0, 0);
    Check.due("a call is no run of its own", 2, server.count(5));
    server.instr(2, 11, 5, 0, 0);
    server.run(2, 0, 0);
    Check.due("a call of nothing is an instruction", 3, server.count(5));
    server.set(0, Scene.THINK, 6);
    server.set(0, Scene.NEXT, 0.125);
    server.tick(1);
    Check.due("an empty function in a tick", 3, server.count(5));
    server.set(0, Scene.THINK, 7);
    server.set(0, Scene.NEXT, 0.125);
    server.tick(1);
    Check.due("no function in a tick", 3, server.count(5));
  }

  private static void hits() {
    Check.sentence("hits so far (6)");
    QuakeServer server = Scene.flyer(0, 0, 800, 800);
    server.wall(50, -50, 51, 50);
    server.wall(-50, 50, 50, 51);
    server.tick(1);
    Check.due("along x and along y", 2, server.count(6));
    server.tick(4);
    Check.due("none without velocity", 2, server.count(6));
    server.set(0, Scene.VX, 800);
    server.tick(4);
    Check.due("another", 3, server.count(6));
    server.remove(0);
    Check.due("they stay counted", 3, server.count(6));
  }

  private static void eachForItself() {
    Check.sentence("Entities that are there (0), walls (1), the time in eighths (2), runaways so far "
        + "(3), the state of the draws (4), runs so far that did at least one instruction (5), "
        + "hits so far (6).");
    QuakeServer server = new QuakeServer();
    server.wall(50, -5, 51, 5);
    server.wall(60, -5, 61, 5);
    counts(server, "two walls", 0, 2, 0, 0, 1, 0, 0);
    server.spawn(0, 0, 1);
    counts(server, "an entity", 1, 2, 0, 0, 1, 0, 0);
    server.tick(3);
    counts(server, "three ticks", 1, 2, 3, 0, 1, 0, 0);
    server.instr(0, 10, 0, 0, 0);
    server.instr(1, 15, 0, 0, 0);
    server.run(0, 0, 0);
    counts(server, "a runaway", 1, 2, 3, 1, 1, 1, 0);
    server.run(1, 0, 0);
    counts(server, "a draw", 1, 2, 3, 1, 1103527590, 2, 0);
    server.run(2, 0, 0);
    counts(server, "a run of nothing", 1, 2, 3, 1, 1103527590, 2, 0);
    server.set(0, 6, 1);
    server.set(0, 2, 800);
    server.set(0, 8, 1);
    server.tick(1);
    counts(server, "a hit with a runaway", 1, 2, 4, 2, 1103527590, 3, 1);
    server.remove(0);
    server.message();
    counts(server, "nobody", 0, 2, 4, 2, 1103527590, 3, 1);
  }

  private static void counts(QuakeServer server, String when, int... due) {
    for (int what = 0; what < due.length; what++) {
      Check.due("count(" + what + ") with " + when, due[what], server.count(what));
    }
  }
}
