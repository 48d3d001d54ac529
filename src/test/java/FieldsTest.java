/** Promises 6 and 7: set and get. */
public final class FieldsTest {
  private static final int[] WRONG_ENTITIES = {-1, 1, 11, 12, Integer.MIN_VALUE, Integer.MAX_VALUE};
  private static final int[] WRONG_FIELDS = {-1, 16, Integer.MIN_VALUE, Integer.MAX_VALUE};
  private static final double[] WRONG_VALUES = {
    16384.125, -16384.125, 131072, -131072,
    Double.POSITIVE_INFINITY, Double.NEGATIVE_INFINITY, Double.NaN
  };

  public static void main(String[] args) {
    whatItWas();
    everyFieldOfEveryEntity();
    setWithoutTheEntity();
    setOfAWrongField();
    setToAWrongValue();
    getWithoutTheEntity();
    getOfAWrongField();
    theEntityIsTestedFirst();
    Check.end();
  }

  private static void whatItWas() {
    Check.sentence("Sets a field; answers what it was.");
    QuakeServer server = Scene.crowd(1);
    double[] values = {16384, -16384, 16383.875, -16383.875, 0.125, -0.125, 0.875, -0.875, 0};
    for (int field = 0; field < 16; field++) {
      double was = 0;
      for (double value : values) {
        Check.due("set to " + value, was, server.set(0, field, value));
        Check.due("get", value, server.get(0, field));
        was = value;
      }
    }
  }

  private static void everyFieldOfEveryEntity() {
    Check.sentence("A field.");
    for (int field = 0; field < 16; field++) {
      QuakeServer server = Scene.crowd(12);
      for (int entity = 0; entity < 12; entity++) {
        server.set(entity, field, entity * 100 + field + 0.125);
      }
      for (int entity = 0; entity < 12; entity++) {
        double due = entity * 100 + field + 0.125;
        Check.due("field " + field + " of " + entity, due, server.get(entity, field));
        Check.due("the field beside it", 0, server.get(entity, (field + 1) % 16));
      }
    }
  }

  private static void setWithoutTheEntity() {
    Check.sentence("NoSuchElementException: the entity is not there.");
    QuakeServer server = Scene.crowd(1);
    for (int entity : WRONG_ENTITIES) {
      Check.missing("set of " + entity, () -> server.set(entity, 0, 0));
    }
    server.remove(0);
    Check.missing("set of a removed one", () -> server.set(0, 0, 1));
    server.spawn(0, 0, 0);
    Check.due("nothing was kept for the next one", 0, server.get(0, 0));
    QuakeServer full = Scene.crowd(12);
    Check.missing("set of -1 of 12", () -> full.set(-1, 0, 0));
    Check.missing("set of 12 of 12", () -> full.set(12, 0, 0));
    Check.due("set of 11 of 12", 0, full.set(11, 0, 0));
  }

  private static void setOfAWrongField() {
    Check.sentence("IllegalArgumentException: field not 0 .. 15, value out of range.");
    QuakeServer server = Scene.crowd(12);
    for (int field : WRONG_FIELDS) {
      Check.argument("set field " + field + " of 0", () -> server.set(0, field, 1));
      Check.argument("set field " + field + " of 11", () -> server.set(11, field, 1));
    }
    Check.due("the field before it", 0, server.get(0, 15));
    Check.due("the field behind it", 0, server.get(1, 0));
    Check.due("the first of the last", 0, server.get(11, 0));
    Check.due("set field 0", 0, server.set(0, 0, 1));
    Check.due("set field 15", 0, server.set(0, 15, 1));
  }

  private static void setToAWrongValue() {
    Check.sentence("IllegalArgumentException: field not 0 .. 15, value out of range.");
    QuakeServer server = new QuakeServer();
    server.spawn(5, 6, 7);
    for (int field = 0; field < 16; field++) {
      int number = field;
      double was = server.get(0, field);
      for (double value : WRONG_VALUES) {
        Check.argument("set to " + value, () -> server.set(0, number, value));
      }
      Check.due("it stays", was, server.set(0, field, 16384));
      Check.due("the greatest", 16384, server.set(0, field, -16384));
      Check.due("the least", -16384, server.get(0, field));
    }
  }

  private static void getWithoutTheEntity() {
    Check.sentence("A field. NoSuchElementException: the entity is not there.");
    QuakeServer server = Scene.crowd(1);
    for (int entity : WRONG_ENTITIES) {
      Check.missing("get of " + entity, () -> server.get(entity, 0));
    }
    server.remove(0);
    Check.missing("get of a removed one", () -> server.get(0, 0));
    QuakeServer full = Scene.crowd(12);
    Check.missing("get of -1 of 12", () -> full.get(-1, 0));
    Check.missing("get of 12 of 12", () -> full.get(12, 0));
    Check.due("get of 11 of 12", 0, full.get(11, 0));
  }

  private static void getOfAWrongField() {
    Check.sentence("IllegalArgumentException: field not 0 .. 15.");
    QuakeServer server = Scene.crowd(12);
    for (int field : WRONG_FIELDS) {
      Check.argument("get field " + field + " of 0", () -> server.get(0, field));
      Check.argument("get field " + field + " of 11", () -> server.get(11, field));
    }
    Check.due("get field 0", 0, server.get(0, 0));
    Check.due("get field 15", 0, server.get(0, 15));
  }

  private static void theEntityIsTestedFirst() {
    Check.sentence("What is thrown is told in the order of testing");
    QuakeServer server = new QuakeServer();
    Check.missing("set of a wrong field of nobody", () -> server.set(0, 16, 0));
    Check.missing("set to a wrong value of nobody", () -> server.set(0, 0, 20000));
    Check.missing("get of a wrong field of nobody", () -> server.get(0, 16));
    Check.missing("set of a wrong field of -1", () -> server.set(-1, -1, 0));
    Check.missing("get of a wrong field of 12", () -> server.get(12, -1));
  }
}
