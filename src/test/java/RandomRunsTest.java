import java.util.Random;

/**
 * Runs of 512 calls, the same ones each time, on the class and on the plain model: every answer
 * must be the same. In every other run the last calls ask for all of the state.
 */
public final class RandomRunsTest {
  private static final int RUNS = 3000;
  private static final int CALLS = 512;
  private static final int CALLS_FOR_ALL = 7 + 24 + 12 * 16 + 109;
  private static final String[] WHAT = {
    "entities", "walls", "time", "runaways", "state of the draws", "runs", "hits"
  };

  private final Random random;
  private final QuakeServer server = new QuakeServer();
  private final PlainModel model = new PlainModel();
  private final int seed;
  private boolean wrong = false;

  private RandomRunsTest(int seed) {
    this.seed = seed;
    random = new Random(seed);
  }

  public static void main(String[] args) {
    long[] reached = new long[WHAT.length];
    for (int seed = 1; seed <= RUNS; seed++) {
      RandomRunsTest run = new RandomRunsTest(seed);
      run.make();
      for (int what = 0; what < WHAT.length; what++) {
        reached[what] += run.model.count(what);
      }
    }
    // Runs in which nothing happens would prove nothing.
    for (int what : new int[] {0, 1, 2, 3, 5, 6}) {
      if (reached[what] < RUNS) {
        Check.fail("only " + reached[what] + " " + WHAT[what] + " in " + RUNS + " runs");
      }
    }
    Check.end();
  }

  private void make() {
    boolean askForAll = seed % 2 == 0;
    int calls = askForAll ? CALLS - CALLS_FOR_ALL : CALLS;
    for (int call = 0; call < calls && !wrong; call++) {
      double chance = call < 90 ? random.nextDouble() * 0.7 : random.nextDouble();
      anyCall(call, chance);
    }
    if (askForAll && !wrong) {
      compareAll(calls);
    }
  }

  private void anyCall(int call, double chance) {
    if (chance < 0.25) {
      int f = mostly(0, 5);
      int[] p = instruction();
      same(call, "instr", () -> server.instr(f, p[0], p[1], p[2], p[3]),
          () -> model.instr(f, p[0], p[1], p[2], p[3]));
    } else if (chance < 0.33) {
      double[] p = {place(), place(), size()};
      same(call, "spawn", () -> server.spawn(p[0], p[1], p[2]), () -> model.spawn(p[0], p[1], p[2]));
    } else if (chance < 0.36) {
      int x = random.nextInt(120) - 60;
      int y = random.nextInt(120) - 60;
      int x2 = x + random.nextInt(30) - 1;
      int y2 = y + random.nextInt(30) - 1;
      same(call, "wall", () -> server.wall(x, y, x2, y2), () -> model.wall(x, y, x2, y2));
    } else if (chance < 0.63) {
      int e = mostly(0, 11);
      int f = mostly(0, 15);
      double v = value(f);
      same(call, "set", () -> server.set(e, f, v), () -> model.set(e, f, v));
    } else if (chance < 0.66) {
      int g = mostly(0, 23);
      int v = random.nextInt(4) == 0 ? random.nextInt(270000) - 135000 : random.nextInt(120) - 16;
      same(call, "setGlobal", () -> server.setGlobal(g, v), () -> model.setGlobal(g, v));
    } else if (chance < 0.72) {
      int f = mostly(0, 5);
      int self = mostly(-1, 11);
      int other = mostly(-1, 11);
      same(call, "run", () -> server.run(f, self, other), () -> model.run(f, self, other));
    } else if (chance < 0.86) {
      int n = mostly(1, 4);
      same(call, "tick", () -> server.tick(n), () -> model.tick(n));
    } else {
      question(call);
    }
  }

  private void question(int call) {
    int e = mostly(0, 11);
    int f = mostly(0, 15);
    int g = mostly(0, 23);
    int index = random.nextInt(60) - 1;
    int what = mostly(0, 6);
    switch (random.nextInt(7)) {
      case 0:
        same(call, "get", () -> server.get(e, f), () -> model.get(e, f));
        break;
      case 1:
        same(call, "global", () -> server.global(g), () -> model.global(g));
        break;
      case 2:
        same(call, "changes", server::changes, model::changes);
        break;
      case 3:
        same(call, "change", () -> server.change(index), () -> model.change(index));
        break;
      case 4:
        same(call, "message", server::message, model::message);
        break;
      case 5:
        same(call, "count", () -> server.count(what), () -> model.count(what));
        break;
      default:
        same(call, "remove", () -> server.remove(e), () -> model.remove(e));
        break;
    }
  }

  /** Mostly of the range, now and then beside it. */
  private int mostly(int least, int greatest) {
    if (random.nextInt(40) == 0) {
      return random.nextBoolean() ? least - 1 : greatest + 1;
    }
    return least + random.nextInt(greatest - least + 1);
  }

  private double place() {
    return random.nextInt(60) == 0 ? 16384 * (random.nextInt(5) - 2) : (random.nextInt(960) - 480) / 8.0;
  }

  private double size() {
    return random.nextInt(10) == 0 ? random.nextInt(80) - 20 : random.nextInt(64) / 8.0;
  }

  private double value(int field) {
    if (random.nextInt(25) == 0) {
      return (random.nextInt(264000) - 132000) / 8.0;
    }
    double part = random.nextInt(6) == 0 ? random.nextInt(8) / 8.0 : 0;
    switch (field) {
      case 0:
      case 1:
        return place();
      case 2:
      case 3:
        return (random.nextInt(8000) - 4000) / 8.0;
      case 4:
        return size();
      case 5:
      case 6:
        return random.nextInt(4) + part;
      case 8:
      case 9:
        return random.nextInt(8) + part;
      case 10:
        return random.nextInt(400) / 8.0;
      case 11:
        return random.nextInt(4) == 0 ? random.nextInt(13) + part : 0;
      default:
        return random.nextInt(100) + part;
    }
  }

  private int[] instruction() {
    int op = mostly(0, 16);
    int a = random.nextInt(3) == 0 ? 20 + random.nextInt(3) : mostly(0, 23);
    int b = mostly(0, op == 7 || op == 8 ? 15 : op == 9 || op == 10 ? 13 : 23);
    if (op == 0) {
      b = random.nextInt(5) == 0 ? random.nextInt(33000) - 16500 : random.nextInt(100);
    }
    if (op == 11) {
      a = mostly(0, 5);
    }
    return new int[] {op, a, b, mostly(0, 23)};
  }

  private void same(int call, String name, Check.Call got, Check.Call want) {
    String answer = answerOf(got);
    String due = answerOf(want);
    if (!answer.equals(due)) {
      wrong = true;
      Check.fail("seed " + seed + ", call " + call + ": " + name + " answered " + answer + ", due is " + due);
    }
  }

  private static String answerOf(Check.Call call) {
    try {
      return String.valueOf(call.answer() + 0.0);
    } catch (RuntimeException e) {
      return e.getClass().getSimpleName();
    }
  }

  private void compareAll(int call) {
    for (int i = 0; i < 7; i++) {
      int what = i;
      same(call, WHAT[i], () -> server.count(what), () -> model.count(what));
    }
    for (int i = 0; i < 24; i++) {
      int global = i;
      same(call, "global " + i, () -> server.global(global), () -> model.global(global));
    }
    for (int i = 0; i < 12 * 16; i++) {
      int entity = i / 16;
      int field = i % 16;
      same(call, "field " + i, () -> server.get(entity, field), () -> model.get(entity, field));
    }
    for (int i = 0; i < 109; i++) {
      int index = i;
      same(call, "change " + i, () -> server.change(index), () -> model.change(index));
    }
  }
}
