/** Promise 1: the state that the terms give at first. */
public final class NewObjectTest {
  public static void main(String[] args) {
    nobodyIsThere();
    noWallsAndNoProgram();
    globalsAreZero();
    countsAtFirst();
    noChanges();
    objectsShareNothing();
    theLastCall();
    Check.end();
  }

  private static void nobodyIsThere() {
    Check.sentence("ENTITIES 0 .. 11 are there or not (at first), with FIELDS 0 .. 15, numbers");
    QuakeServer server = new QuakeServer();
    for (int entity = 0; entity < 12; entity++) {
      int number = entity;
      Check.missing("get(" + entity + ", 0)", () -> server.get(number, 0));
    }
    Check.due("the first number is free", 0, server.spawn(0, 0, 0));
  }

  private static void noWallsAndNoProgram() {
    Check.sentence("makes an object in the state that the terms give.");
    QuakeServer server = new QuakeServer();
    Check.due("the first wall's number", 0, server.wall(0, 0, 1, 1));
    for (int function = 0; function < 6; function++) {
      Check.due("run of an empty function " + function, 0, server.run(function, 0, 0));
      Check.due("its first instruction", 1, server.instr(function, 16, 0, 0, 0));
    }
  }

  private static void globalsAreZero() {
    Check.sentence("over the GLOBALS 0 .. 23, numbers, 0 at first");
    QuakeServer server = new QuakeServer();
    for (int global = 0; global < 24; global++) {
      Check.due("global(" + global + ")", 0, server.global(global));
    }
  }

  private static void countsAtFirst() {
    QuakeServer server = new QuakeServer();
    Check.sentence("22 becomes the TIME, T(0) at first");
    Check.due("time", 0, server.count(2));
    Check.sentence("the state s, 1 at first");
    Check.due("state of the draws", 1, server.count(4));
    Check.sentence("makes an object in the state that the terms give.");
    for (int what : new int[] {0, 1, 3, 5, 6}) {
      Check.due("count(" + what + ")", 0, server.count(what));
    }
  }

  private static void noChanges() {
    Check.sentence("that is not as it was at the last message, or at the beginning.");
    QuakeServer server = new QuakeServer();
    Check.due("changes", 0, server.changes());
    Check.missing("change(0)", () -> server.change(0));
    Check.due("message", 0, server.message());
  }

  private static void objectsShareNothing() {
    Check.sentence("makes an object in the state that the terms give.");
    QuakeServer server = new QuakeServer();
    QuakeServer another = new QuakeServer();
    another.spawn(1, 1, 1);
    another.wall(0, 0, 1, 1);
    another.setGlobal(3, 9);
    another.instr(0, 15, 0, 0, 0);
    another.run(0, 0, 0);
    another.tick(1);
    for (QuakeServer one : new QuakeServer[] {server, new QuakeServer()}) {
      Check.due("entities", 0, one.count(0));
      Check.due("walls", 0, one.count(1));
      Check.due("time", 0, one.count(2));
      Check.due("draws", 1, one.count(4));
      Check.due("global", 0, one.global(3));
      Check.due("run", 0, one.run(0, 0, 0));
      Check.due("changes", 0, one.changes());
    }
  }

  private static void theLastCall() {
    Check.sentence("An object is used for at most 512 calls after it has been made");
    QuakeServer server = new QuakeServer();
    for (int call = 1; call < 512; call++) {
      server.tick(4);
    }
    Check.due("the time at the 512th call", 511 * 4, server.count(2));
    QuakeServer drawing = new QuakeServer();
    for (int place = 0; place < 14; place++) {
      drawing.instr(0, 15, 0, 0, 0);
    }
    for (int call = 15; call < 512; call++) {
      drawing.run(0, 0, 0);
    }
    Check.due("the runs at the 512th call", 512 - 15, drawing.count(5));
  }
}
