/** Promise 1: the state that the terms give at first. */
public final class NewObjectTest {
  public static void main(String[] args) {
    QuakeServer server = new QuakeServer();
    int[] atFirst = {0, 0, 0, 0, 1, 0, 0};
    for (int what = 0; what < atFirst.length; what++) {
      Check.due("count(" + what + ")", atFirst[what], server.count(what));
    }
    for (int global = 0; global < 24; global++) {
      Check.due("global(" + global + ")", 0, server.global(global));
    }
    for (int entity = 0; entity < 12; entity++) {
      int number = entity;
      Check.missing("get(" + entity + ", 0)", () -> server.get(number, 0));
    }
    for (int function = 0; function < 6; function++) {
      Check.due("run of an empty function " + function, 0, server.run(function, 0, 0));
    }
    Check.due("changes", 0, server.changes());
    Check.due("message", 0, server.message());
    Check.missing("change(0)", () -> server.change(0));
    Check.due("objects share nothing", 0, spawnOnAnother(server));
    Check.end();
  }

  private static int spawnOnAnother(QuakeServer server) {
    QuakeServer another = new QuakeServer();
    another.spawn(1, 1, 1);
    another.wall(0, 0, 1, 1);
    another.setGlobal(3, 9);
    another.instr(0, 15, 0, 0, 0);
    another.run(0, 0, 0);
    return server.count(0) + server.count(1) + server.global(3) + server.run(0, 0, 0);
  }
}
