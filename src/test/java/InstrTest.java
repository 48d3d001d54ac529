/** Promise 3: instr. */
public final class InstrTest {
  private static final int ANY = Integer.MIN_VALUE;
  // For each op the bounds of a, b and c: {least, greatest}, or null where anything goes.
  private static final int[] GLOBAL = {0, 23};
  private static final int[] FIELD = {0, 15};
  private static final int[] PLACE = {0, 13};
  private static final int[] FUNCTION = {0, 5};
  private static final int[] WRITTEN = {-16000, 16000};
  private static final int[][][] BOUNDS = {
    {null, WRITTEN, GLOBAL},
    {GLOBAL, GLOBAL, GLOBAL},
    {GLOBAL, GLOBAL, GLOBAL},
    {GLOBAL, GLOBAL, GLOBAL},
    {GLOBAL, GLOBAL, GLOBAL},
    {GLOBAL, GLOBAL, GLOBAL},
    {GLOBAL, null, GLOBAL},
    {GLOBAL, FIELD, GLOBAL},
    {GLOBAL, FIELD, GLOBAL},
    {GLOBAL, PLACE, null},
    {null, PLACE, null},
    {FUNCTION, null, null},
    {null, null, GLOBAL},
    {GLOBAL, null, null},
    {GLOBAL, null, GLOBAL},
    {null, null, GLOBAL},
    {null, null, null}
  };

  public static void main(String[] args) {
    for (int op = 0; op < BOUNDS.length; op++) {
      edgesOf(op);
    }
    wrongOpsAndFunctions();
    functionsFillUp();
    Check.end();
  }

  private static int least(int op, int part) {
    return BOUNDS[op][part] == null ? ANY : BOUNDS[op][part][0];
  }

  private static int greatest(int op, int part) {
    return BOUNDS[op][part] == null ? Integer.MAX_VALUE : BOUNDS[op][part][1];
  }

  private static void edgesOf(int op) {
    QuakeServer server = new QuakeServer();
    Check.due("least parts of op " + op, 1,
        server.instr(0, op, least(op, 0), least(op, 1), least(op, 2)));
    Check.due("greatest parts of op " + op, 2,
        server.instr(0, op, greatest(op, 0), greatest(op, 1), greatest(op, 2)));
    for (int part = 0; part < 3; part++) {
      if (BOUNDS[op][part] != null) {
        refused(server, op, part, BOUNDS[op][part][0] - 1);
        refused(server, op, part, BOUNDS[op][part][1] + 1);
        refused(server, op, part, Integer.MIN_VALUE);
        refused(server, op, part, Integer.MAX_VALUE);
      }
    }
    Check.due("nothing was added by the refused of op " + op, 3,
        server.instr(0, op, least(op, 0), least(op, 1), least(op, 2)));
  }

  private static void refused(QuakeServer server, int op, int part, int value) {
    int[] parts = {least(op, 0), least(op, 1), least(op, 2)};
    parts[part] = value;
    Check.argument("instr op " + op + " with part " + part + " = " + value,
        () -> server.instr(0, op, parts[0], parts[1], parts[2]));
  }

  private static void wrongOpsAndFunctions() {
    QuakeServer server = new QuakeServer();
    for (int op : new int[] {-1, 17, Integer.MIN_VALUE, Integer.MAX_VALUE}) {
      Check.argument("op " + op, () -> server.instr(0, op, 0, 0, 0));
    }
    for (int function : new int[] {-1, 6, Integer.MIN_VALUE, Integer.MAX_VALUE}) {
      Check.argument("function " + function, () -> server.instr(function, 16, 0, 0, 0));
    }
  }

  private static void functionsFillUp() {
    QuakeServer server = new QuakeServer();
    for (int function = 0; function < 6; function++) {
      int number = function;
      for (int place = 0; place < 14; place++) {
        Check.due("length", place + 1, server.instr(function, 0, 0, function * 100 + place, place));
      }
      Check.state("a fifteenth", () -> server.instr(number, 16, 0, 0, 0));
      Check.argument("a wrong fifteenth", () -> server.instr(number, 17, 0, 0, 0));
    }
    for (int function = 0; function < 6; function++) {
      Check.due("all are done", 14, server.run(function, 0, 0));
      for (int place = 0; place < 14; place++) {
        Check.due("each in its place", function * 100 + place, server.global(place));
      }
    }
  }
}
