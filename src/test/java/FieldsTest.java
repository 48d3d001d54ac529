/** Promises 6 and 7: set and get. */
public final class FieldsTest {
  public static void main(String[] args) {
    everyFieldOfEveryEntity();
    edgesOfValues();
    wrongInputs();
    orderOfTesting();
    Check.end();
  }

  private static void everyFieldOfEveryEntity() {
    QuakeServer server = new QuakeServer();
    for (int entity = 0; entity < 12; entity++) {
      server.spawn(0, 0, 0);
      for (int field = 0; field < 16; field++) {
        Check.due("set", 0, server.set(entity, field, entity * 100 + field + 0.125));
      }
    }
    for (int entity = 0; entity < 12; entity++) {
      for (int field = 0; field < 16; field++) {
        double due = entity * 100 + field + 0.125;
        Check.due("get", due, server.get(entity, field));
        Check.due("set answers what it was", due, server.set(entity, field, -1));
      }
    }
  }

  private static void edgesOfValues() {
    QuakeServer server = new QuakeServer();
    server.spawn(0, 0, 0);
    double[] values = {16384, -16384, 16383.875, -16383.875, 0.125, -0.125, 0.875, -0.875, 0};
    double was = 0;
    for (double value : values) {
      Check.due("set to " + value, was, server.set(0, 12, value));
      Check.due("get", value, server.get(0, 12));
      was = value;
    }
  }

  private static void wrongInputs() {
    QuakeServer server = new QuakeServer();
    server.spawn(5, 6, 7);
    int[] wrongFields = {-1, 16, Integer.MIN_VALUE, Integer.MAX_VALUE};
    for (int field : wrongFields) {
      Check.argument("get field " + field, () -> server.get(0, field));
      Check.argument("set field " + field, () -> server.set(0, field, 0));
    }
    double[] wrongValues = {
      16384.125, -16384.125, 131072, Double.POSITIVE_INFINITY, Double.NEGATIVE_INFINITY, Double.NaN
    };
    for (double value : wrongValues) {
      Check.argument("set to " + value, () -> server.set(0, 0, value));
    }
    int[] wrongEntities = {-1, 1, 12, Integer.MIN_VALUE, Integer.MAX_VALUE};
    for (int entity : wrongEntities) {
      Check.missing("get of " + entity, () -> server.get(entity, 0));
      Check.missing("set of " + entity, () -> server.set(entity, 0, 0));
    }
    Check.due("nothing has changed", 5, server.get(0, 0));
    server.remove(0);
    Check.missing("get of a removed one", () -> server.get(0, 0));
    Check.missing("set of a removed one", () -> server.set(0, 0, 1));
  }

  private static void orderOfTesting() {
    QuakeServer server = new QuakeServer();
    Check.missing("the entity is tested first: set field", () -> server.set(0, 16, 0));
    Check.missing("the entity is tested first: set value", () -> server.set(0, 0, 20000));
    Check.missing("the entity is tested first: get", () -> server.get(0, 16));
  }
}
