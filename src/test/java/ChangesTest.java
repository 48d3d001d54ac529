/** Promises 12, 13 and 14: changes, change and message. */
public final class ChangesTest {
  public static void main(String[] args) {
    fieldsThatAreTold();
    codesRise();
    backAsItWas();
    thereOrNot();
    ticksAndRuns();
    wrongIndexes();
    Check.end();
  }

  private static void fieldsThatAreTold() {
    QuakeServer server = new QuakeServer();
    server.spawn(0, 0, 0);
    Check.due("it is there", 1, server.message());
    for (int field = 0; field < 16; field++) {
      server.set(0, field, 0.125);
      Check.due("changes by field " + field, field < 8 ? 1 : 0, server.changes());
      if (field < 8) {
        Check.due("its code", field, server.change(0));
      }
      Check.due("message", field < 8 ? 1 : 0, server.message());
      Check.due("no changes any more", 0, server.changes());
    }
  }

  private static void codesRise() {
    QuakeServer server = new QuakeServer();
    for (int entity = 0; entity < 12; entity++) {
      server.spawn(0, 0, 0);
      for (int field = 15; field >= 0; field--) {
        server.set(entity, field, 1);
      }
    }
    Check.due("nine each", 108, server.changes());
    for (int index = 0; index < 108; index++) {
      int field = index % 9 == 8 ? 15 : index % 9;
      Check.due("code at " + index, index / 9 * 16 + field, server.change(index));
    }
    Check.missing("behind the last", () -> server.change(108));
    Check.due("message", 108, server.message());
    Check.due("message again", 0, server.message());
  }

  private static void backAsItWas() {
    QuakeServer server = new QuakeServer();
    server.spawn(5, 0, 0);
    server.message();
    server.set(0, 0, 6);
    server.set(0, 3, 1);
    Check.due("two", 2, server.changes());
    server.set(0, 0, 5);
    Check.due("one is as it was", 1, server.changes());
    Check.due("the other is not", 3, server.change(0));
    Check.due("asking changes nothing", 1, server.changes());
    Check.due("message", 1, server.message());
    server.set(0, 3, 0);
    Check.due("not as at the last message", 1, server.changes());
  }

  private static void thereOrNot() {
    QuakeServer server = new QuakeServer();
    server.spawn(1, 0, 3);
    server.remove(0);
    Check.due("come and gone", 0, server.changes());
    server.spawn(1, 0, 3);
    Check.due("X, SIZE and whether it is there", 3, server.message());
    server.set(0, 12, 9);
    server.remove(0);
    Check.due("they count as 0", 3, server.changes());
    Check.due("X", 0, server.change(0));
    Check.due("SIZE", 4, server.change(1));
    Check.due("there", 15, server.change(2));
    server.spawn(1, 2, 3);
    Check.due("a new one that differs in Y", 1, server.changes());
    Check.due("Y", 1, server.change(0));
    server.remove(0);
    Check.due("message", 3, server.message());
    server.spawn(0, 0, 0);
    Check.due("there", 1, server.changes());
    Check.due("its code", 15, server.change(0));
  }

  private static void ticksAndRuns() {
    QuakeServer server = new QuakeServer();
    server.spawn(0, 0, 1);
    server.spawn(9, 9, 1);
    server.set(0, 6, 2);
    server.message();
    server.tick(1);
    Check.due("Y and VY", 2, server.changes());
    Check.due("Y", 1, server.change(0));
    Check.due("VY", 3, server.change(1));
    server.message();
    server.instr(0, 13, 20, 0, 0);
    server.run(0, 1, -1);
    Check.due("X, Y, SIZE and whether it is there", 4, server.changes());
    Check.due("X", 16, server.change(0));
    Check.due("there", 31, server.change(3));
    server.setGlobal(5, 5);
    server.wall(0, 0, 1, 1);
    Check.due("globals and walls are no changes", 4, server.changes());
  }

  private static void wrongIndexes() {
    QuakeServer server = new QuakeServer();
    server.spawn(1, 0, 0);
    for (int index : new int[] {-1, 2, 200, Integer.MIN_VALUE, Integer.MAX_VALUE}) {
      Check.missing("change " + index, () -> server.change(index));
    }
    Check.due("the last", 15, server.change(1));
  }
}
