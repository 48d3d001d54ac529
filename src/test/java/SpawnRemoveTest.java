/** Promises 4 and 5: spawn and remove. */
public final class SpawnRemoveTest {
  public static void main(String[] args) {
    placeAndSize();
    aNewOneHasZeros();
    leastNumberFirst();
    numbersOutOfRange();
    allAreThere();
    wrongNumbersAreTestedFirst();
    removing();
    wrongRemoves();
    Check.end();
  }

  private static void placeAndSize() {
    Check.sentence("with X, Y and SIZE; answers its number.");
    QuakeServer server = new QuakeServer();
    Check.due("spawn", 0, server.spawn(-16384, 16384, -0.125));
    Check.due("X", -16384, server.get(0, 0));
    Check.due("Y", 16384, server.get(0, 1));
    Check.due("SIZE as it was given", -0.125, server.get(0, 4));
    Check.due("spawn", 1, server.spawn(0, 0, 16384));
    Check.due("SIZE at the greatest", 16384, server.get(1, 4));
    Check.due("spawn", 2, server.spawn(0, 0, -16384));
    Check.due("SIZE at the least", -16384, server.get(2, 4));
  }

  private static void aNewOneHasZeros() {
    Check.sentence("A new one has 0 in all.");
    QuakeServer server = new QuakeServer();
    server.instr(0, 12, 0, 0, 0);
    for (int way = 0; way < 2; way++) {
      for (int entity = 0; entity < 2; entity++) {
        server.spawn(0, 0, 0);
        for (int field = 0; field < 16; field++) {
          server.set(entity, field, 7);
        }
      }
      server.remove(1);
      if (way == 0) {
        server.spawn(0, 0, 0);
      } else {
        server.run(0, 0, 0);
      }
      for (int field = 0; field < 16; field++) {
        Check.due("field " + field + " of the new one", 0, server.get(1, field));
        Check.due("field " + field + " of the other", 7, server.get(0, field));
      }
      server.remove(0);
      server.remove(1);
    }
  }

  private static void leastNumberFirst() {
    Check.sentence("A new entity, the least number that is not there");
    QuakeServer server = new QuakeServer();
    for (int number = 0; number < 12; number++) {
      Check.due("spawn", number, server.spawn(0, 0, 0));
      Check.due("entities", number + 1, server.count(0));
    }
    for (int gone : new int[] {7, 3, 11, 0}) {
      server.remove(gone);
    }
    for (int number : new int[] {0, 3, 7, 11}) {
      Check.due("the least that is not there", number, server.spawn(0, 0, 0));
    }
  }

  private static void numbersOutOfRange() {
    Check.sentence("IllegalArgumentException: a number out of range.");
    QuakeServer server = new QuakeServer();
    double[] wrong = {
      16384.125, -16384.125, 131072, -131072, 1e300, -1e300,
      Double.POSITIVE_INFINITY, Double.NEGATIVE_INFINITY, Double.NaN
    };
    for (double number : wrong) {
      Check.argument("x " + number, () -> server.spawn(number, 0, 0));
      Check.argument("y " + number, () -> server.spawn(0, number, 0));
      Check.argument("size " + number, () -> server.spawn(0, 0, number));
    }
    Check.due("nobody is there", 0, server.count(0));
    int made = 0;
    for (double number : new double[] {16384, -16384}) {
      Check.due("x " + number, made++, server.spawn(number, 0, 0));
      Check.due("y " + number, made++, server.spawn(0, number, 0));
      Check.due("size " + number, made++, server.spawn(0, 0, number));
    }
  }

  private static void allAreThere() {
    Check.sentence("IllegalStateException: all 12 are there.");
    QuakeServer server = Scene.crowd(12);
    Check.state("a thirteenth", () -> server.spawn(0, 0, 0));
    Check.state("once more", () -> server.spawn(16384, -16384, 1));
    Check.due("entities still", 12, server.count(0));
    server.remove(11);
    Check.due("there is room again", 11, server.spawn(0, 0, 0));
    Check.state("and no more", () -> server.spawn(0, 0, 0));
  }

  private static void wrongNumbersAreTestedFirst() {
    Check.sentence("What is thrown is told in the order of testing");
    QuakeServer server = Scene.crowd(12);
    Check.argument("a wrong x of a thirteenth", () -> server.spawn(16385, 0, 0));
    Check.argument("a wrong y of a thirteenth", () -> server.spawn(0, -16385, 0));
    Check.argument("a wrong size of a thirteenth", () -> server.spawn(0, 0, 16385));
  }

  private static void removing() {
    Check.sentence("Removes an entity: 1.");
    QuakeServer server = Scene.crowd(12);
    int left = 12;
    for (int number : new int[] {11, 0, 5}) {
      Check.due("remove", 1, server.remove(number));
      left--;
      Check.due("entities", left, server.count(0));
      Check.missing("it is gone", () -> server.get(number, 0));
    }
    Check.due("another stays", 0, server.get(6, 0));
  }

  private static void wrongRemoves() {
    Check.sentence("NoSuchElementException: it is not there.");
    QuakeServer server = Scene.crowd(1);
    for (int number : new int[] {-1, 1, 11, 12, Integer.MIN_VALUE, Integer.MAX_VALUE}) {
      Check.missing("remove " + number, () -> server.remove(number));
    }
    Check.due("one is there", 1, server.count(0));
    server.remove(0);
    Check.missing("remove twice", () -> server.remove(0));
    Check.due("nobody is there", 0, server.count(0));
    QuakeServer full = Scene.crowd(12);
    Check.missing("remove 12 of 12", () -> full.remove(12));
    Check.missing("remove -1 of 12", () -> full.remove(-1));
  }
}
