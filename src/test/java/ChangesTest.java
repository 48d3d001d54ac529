/** Promises 12, 13 and 14: changes, change and message. */
public final class ChangesTest {
  public static void main(String[] args) {
    fieldsThatAreTold();
    theLeastDifference();
    othersAreNot();
    goneOnesCountAsZero();
    comeAndGone();
    asAtTheLastMessage();
    howMany();
    codesRise();
    noSuchChange();
    messages();
    ticksAndRuns();
    Check.end();
  }

  private static void fieldsThatAreTold() {
    Check.sentence("A CHANGE is an entity with a field of 0 .. 7, or 15 for whether it is there");
    for (int entity : new int[] {0, 11}) {
      QuakeServer server = Scene.crowd(12);
      Check.due("they are there", 12, server.message());
      for (int field = 0; field < 16; field++) {
        server.set(entity, field, -16384);
        Check.due("changes by field " + field, field < 8 ? 1 : 0, server.changes());
        if (field < 8) {
          Check.due("its code", entity * 16 + field, server.change(0));
        }
        Check.due("message", field < 8 ? 1 : 0, server.message());
        Check.due("no changes any more", 0, server.changes());
      }
      server.remove(entity);
      Check.due("8 fields and whether it is there", 9, server.changes());
      Check.due("the last code", entity * 16 + 15, server.change(8));
    }
  }

  private static void theLeastDifference() {
    Check.sentence("that is not as it was at the last message, or at the beginning.");
    QuakeServer server = Scene.crowd(1);
    server.message();
    for (double[] step : new double[][] {{0.125, 1}, {-0.125, 1}, {0, 0}, {16384, 1}, {-16384, 1}}) {
      server.set(0, 7, step[0]);
      Check.due("changes with " + step[0], step[1], server.changes());
    }
  }

  private static void othersAreNot() {
    Check.sentence("A CHANGE is an entity with a field of 0 .. 7, or 15 for whether it is there");
    QuakeServer server = Scene.crowd(1);
    server.message();
    for (int field = 8; field < 16; field++) {
      server.set(0, field, 5);
    }
    server.setGlobal(5, 5);
    server.wall(0, 0, 1, 1);
    server.instr(0, 15, 0, 0, 0);
    server.run(0, 0, 0);
    server.tick(1);
    Check.due("fields 8 to 15, globals, walls, programs and time", 0, server.changes());
    server.remove(0);
    Check.due("field 15 of one that is gone", 1, server.changes());
    server.message();
    server.spawn(0, 0, 0);
    Check.due("field 15 of a new one", 1, server.changes());
  }

  private static void goneOnesCountAsZero() {
    Check.sentence("(the other fields of one that is not there count as 0)");
    QuakeServer server = new QuakeServer();
    server.spawn(1, 0, 3);
    Check.due("X, SIZE and whether it is there", 3, server.message());
    server.remove(0);
    Check.due("they count as 0", 3, server.changes());
    Check.due("X", 0, server.change(0));
    Check.due("SIZE", 4, server.change(1));
    Check.due("there", 15, server.change(2));
    Check.due("message", 3, server.message());
    Check.due("gone, and told", 0, server.changes());
    server.spawn(0, 0, 0);
    Check.due("there", 1, server.changes());
    Check.due("its code", 15, server.change(0));
  }

  private static void comeAndGone() {
    Check.sentence("that is not as it was at the last message, or at the beginning.");
    QuakeServer server = new QuakeServer();
    server.spawn(1, 0, 3);
    server.remove(0);
    Check.due("come and gone", 0, server.changes());
    Check.missing("no change", () -> server.change(0));
    server.spawn(1, 0, 3);
    server.message();
    server.remove(0);
    server.spawn(1, 2, 3);
    Check.due("gone and come, but for Y", 1, server.changes());
    Check.due("Y", 1, server.change(0));
  }

  private static void asAtTheLastMessage() {
    Check.sentence("that is not as it was at the last message, or at the beginning.");
    QuakeServer server = new QuakeServer();
    server.spawn(5, 0, 0);
    server.message();
    server.set(0, 0, 6);
    server.set(0, 3, 1);
    Check.due("two", 2, server.changes());
    server.set(0, 0, 5);
    Check.due("one is as it was", 1, server.changes());
    Check.due("the other is not", 3, server.change(0));
    Check.due("message", 1, server.message());
    server.set(0, 3, 0);
    Check.due("as at the beginning, not as at the last message", 1, server.changes());
  }

  /** All 12 are there with 1 in all fields. */
  private static QuakeServer allChanged() {
    QuakeServer server = new QuakeServer();
    for (int entity = 0; entity < 12; entity++) {
      server.spawn(1, 1, 1);
      for (int field = 15; field >= 0; field--) {
        server.set(entity, field, 1);
      }
    }
    return server;
  }

  private static void howMany() {
    Check.sentence("How many changes there are.");
    Check.due("none", 0, new QuakeServer().changes());
    Check.due("nine each", 108, allChanged().changes());
    QuakeServer server = Scene.crowd(12);
    Check.due("one each", 12, server.changes());
    Check.due("asking changes nothing", 12, server.changes());
  }

  private static void codesRise() {
    Check.sentence("The change at the index (from 0), by rising entity, then field: "
        + "16 times the entity plus the field.");
    QuakeServer server = allChanged();
    for (int index = 0; index < 108; index++) {
      int field = index % 9 == 8 ? 15 : index % 9;
      Check.due("code at " + index, index / 9 * 16 + field, server.change(index));
    }
    QuakeServer some = Scene.crowd(12);
    some.message();
    some.set(11, 0, 1);
    some.remove(3);
    some.set(0, 7, 1);
    int[] due = {7, 63, 176};
    for (int index = 0; index < 3; index++) {
      Check.due("code at " + index, due[index], some.change(index));
    }
  }

  private static void noSuchChange() {
    Check.sentence("NoSuchElementException: there is none.");
    QuakeServer none = new QuakeServer();
    QuakeServer two = new QuakeServer();
    two.spawn(1, 0, 0);
    QuakeServer all = allChanged();
    for (int index : new int[] {-1, Integer.MIN_VALUE, 108, 109, 192, Integer.MAX_VALUE}) {
      Check.missing("change " + index + " of none", () -> none.change(index));
      Check.missing("change " + index + " of two", () -> two.change(index));
      Check.missing("change " + index + " of all", () -> all.change(index));
    }
    Check.missing("the first of none", () -> none.change(0));
    Check.missing("the third of two", () -> two.change(2));
    Check.due("the first of two", 0, two.change(0));
    Check.due("the last of two", 15, two.change(1));
    Check.due("the last of all", 191, all.change(107));
    two.message();
    Check.missing("the first behind a message", () -> two.change(0));
  }

  private static void messages() {
    Check.sentence("Sends a message: there are no changes any more; answers how many there were.");
    QuakeServer server = allChanged();
    Check.due("all", 108, server.message());
    Check.due("no changes any more", 0, server.changes());
    Check.due("none", 0, server.message());
    for (int entity = 0; entity < 12; entity++) {
      server.remove(entity);
    }
    Check.due("all are gone", 108, server.message());
    Check.due("no changes any more", 0, server.changes());
    Check.due("a new object's", 0, new QuakeServer().message());
  }

  private static void ticksAndRuns() {
    Check.sentence("A CHANGE is an entity with a field of 0 .. 7, or 15 for whether it is there");
    QuakeServer server = new QuakeServer();
    server.spawn(0, 0, 1);
    server.spawn(9, 9, 1);
    server.set(0, 6, 2);
    server.message();
    server.tick(1);
    Check.due("Y and VY", 2, server.changes());
    Check.due("Y", 1, server.change(0));
    Check.due("VY", 3, server.change(1));
    server.message();
    server.instr(0, 13, 20, 0, 0);
    server.instr(1, 12, 0, 0, 0);
    server.run(0, 1, -1);
    Check.due("X, Y, SIZE and whether it is there", 4, server.changes());
    Check.due("X", 16, server.change(0));
    Check.due("there", 31, server.change(3));
    server.run(1, 0, 0);
    Check.due("made anew: X, Y and SIZE", 3, server.changes());
  }
}
