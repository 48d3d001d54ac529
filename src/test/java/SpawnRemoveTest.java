/** Promises 4 and 5: spawn and remove. */
public final class SpawnRemoveTest {
  public static void main(String[] args) {
    fieldsOfANewOne();
    leastNumberFirst();
    wrongNumbers();
    wrongRemoves();
    Check.end();
  }

  private static void fieldsOfANewOne() {
    QuakeServer server = new QuakeServer();
    Check.due("spawn", 0, server.spawn(-16384, 16384, -0.125));
    double[] due = {-16384, 16384, 0, 0, -0.125, 0, 0, 0, 0, 0, 0, 0, 0, 0, 0, 0};
    for (int field = 0; field < 16; field++) {
      Check.due("field " + field, due[field], server.get(0, field));
      server.set(0, field, 7);
    }
    Check.due("remove", 1, server.remove(0));
    Check.due("spawn again", 0, server.spawn(1, 2, 3));
    double[] again = {1, 2, 0, 0, 3, 0, 0, 0, 0, 0, 0, 0, 0, 0, 0, 0};
    for (int field = 0; field < 16; field++) {
      Check.due("field " + field + " is new again", again[field], server.get(0, field));
    }
  }

  private static void leastNumberFirst() {
    QuakeServer server = new QuakeServer();
    for (int number = 0; number < 12; number++) {
      Check.due("spawn", number, server.spawn(0, 0, 0));
      Check.due("entities", number + 1, server.count(0));
    }
    Check.state("a thirteenth", () -> server.spawn(0, 0, 0));
    Check.argument("a wrong thirteenth", () -> server.spawn(16385, 0, 0));
    Check.due("remove 7", 1, server.remove(7));
    Check.due("remove 3", 1, server.remove(3));
    Check.due("remove 11", 1, server.remove(11));
    Check.due("entities", 9, server.count(0));
    Check.due("the least that is not there", 3, server.spawn(0, 0, 0));
    Check.due("the next", 7, server.spawn(0, 0, 0));
    Check.due("the last", 11, server.spawn(0, 0, 0));
  }

  private static void wrongNumbers() {
    QuakeServer server = new QuakeServer();
    double[] wrong = {
      16384.125, -16384.125, 1e300, -1e300,
      Double.POSITIVE_INFINITY, Double.NEGATIVE_INFINITY, Double.NaN
    };
    for (double number : wrong) {
      Check.argument("x " + number, () -> server.spawn(number, 0, 0));
      Check.argument("y " + number, () -> server.spawn(0, number, 0));
      Check.argument("size " + number, () -> server.spawn(0, 0, number));
    }
    Check.due("nobody is there", 0, server.count(0));
    Check.due("sizes have the range of all numbers", 0, server.spawn(0, 0, 16384));
    Check.due("negative ones too", 1, server.spawn(0, 0, -16384));
  }

  private static void wrongRemoves() {
    QuakeServer server = new QuakeServer();
    server.spawn(0, 0, 0);
    int[] wrong = {-1, 1, 11, 12, Integer.MIN_VALUE, Integer.MAX_VALUE};
    for (int number : wrong) {
      Check.missing("remove " + number, () -> server.remove(number));
    }
    Check.due("remove", 1, server.remove(0));
    Check.missing("remove twice", () -> server.remove(0));
    Check.due("nobody is there", 0, server.count(0));
  }
}
