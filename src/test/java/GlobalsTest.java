/** Promises 8 and 9: setGlobal and global. */
public final class GlobalsTest {
  public static void main(String[] args) {
    QuakeServer server = new QuakeServer();
    for (int global = 0; global < 24; global++) {
      Check.due("setGlobal", 0, server.setGlobal(global, global * 10 + 1));
    }
    for (int global = 0; global < 24; global++) {
      Check.due("global", global * 10 + 1, server.global(global));
      Check.due("what it was", global * 10 + 1, server.setGlobal(global, 131072));
      Check.due("the greatest", 131072, server.setGlobal(global, -131072));
      Check.due("the least", -131072, server.global(global));
    }
    wrongInputs(server);
    Check.end();
  }

  private static void wrongInputs(QuakeServer server) {
    for (int global : new int[] {-1, 24, Integer.MIN_VALUE, Integer.MAX_VALUE}) {
      Check.argument("global " + global, () -> server.global(global));
      Check.argument("setGlobal " + global, () -> server.setGlobal(global, 0));
    }
    for (int eighths : new int[] {131073, -131073, Integer.MIN_VALUE, Integer.MAX_VALUE}) {
      Check.argument("setGlobal to " + eighths, () -> server.setGlobal(5, eighths));
    }
    Check.due("nothing has changed", -131072, server.global(5));
  }
}
