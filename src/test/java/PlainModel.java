import java.util.ArrayList;
import java.util.List;
import java.util.NoSuchElementException;

/**
 * The document told once more, as near to its words as can be and without regard to cost: numbers
 * are doubles, calls of functions are recursion, blockers are gathered in a list.
 */
final class PlainModel {
  private static final class Entity {
    final double[] fields = new double[16];

    int whole(int field) {
      return (int) Math.floor(fields[field]);
    }

    double size() {
      return Math.min(32, Math.max(1, fields[4]));
    }

    double begin(int axis) {
      return fields[axis] - size();
    }

    double end(int axis) {
      return fields[axis] + size();
    }
  }

  private static final class Blocker {
    final int number;
    final double distance;

    Blocker(int number, double distance) {
      this.number = number;
      this.distance = distance;
    }
  }

  private static final class Runaway extends Exception {
    private static final long serialVersionUID = 1L;
  }

  private final Entity[] entities = new Entity[12];
  private final List<int[]> walls = new ArrayList<>();
  private final List<List<int[]>> functions = new ArrayList<>();
  private final double[] globals = new double[24];
  private final double[][] told = new double[12][16];
  private double time = 0;
  private long drawState = 1;
  private int done;
  private int runaways = 0;
  private int runs = 0;
  private int hits = 0;

  PlainModel() {
    for (int function = 0; function < 6; function++) {
      functions.add(new ArrayList<>());
    }
  }

  private static double t(double value) {
    return Math.max(-16384, Math.min(16384, Math.floor(value * 8) / 8));
  }

  private static boolean within(double value, double least, double greatest) {
    return value >= least && value <= greatest;
  }

  private static void argument(boolean right) {
    if (!right) {
      throw new IllegalArgumentException();
    }
  }

  private static void state(boolean right) {
    if (!right) {
      throw new IllegalStateException();
    }
  }

  private Entity entity(double number) {
    double whole = Math.floor(number);
    return within(whole, 0, 11) ? entities[(int) whole] : null;
  }

  private void mustBeThere(int number) {
    if (entity(number) == null) {
      throw new NoSuchElementException();
    }
  }

  int wall(int x1, int y1, int x2, int y2) {
    for (int side : new int[] {x1, y1, x2, y2}) {
      argument(within(side, -1024, 1024));
    }
    argument(x1 < x2);
    argument(y1 < y2);
    state(walls.size() < 6);
    walls.add(new int[] {x1, y1, x2, y2});
    return walls.size() - 1;
  }

  int instr(int function, int op, int a, int b, int c) {
    argument(within(function, 0, 5));
    argument(within(op, 0, 16));
    if (within(op, 1, 9) || op == 13 || op == 14) {
      argument(within(a, 0, 23));
    }
    if (within(op, 1, 5)) {
      argument(within(b, 0, 23));
    }
    if (within(op, 0, 8) || op == 12 || op == 14 || op == 15) {
      argument(within(c, 0, 23));
    }
    argument(op != 7 && op != 8 || within(b, 0, 15));
    argument(op != 9 && op != 10 || within(b, 0, 13));
    argument(op != 11 || within(a, 0, 5));
    argument(op != 0 || within(b, -16000, 16000));
    state(functions.get(function).size() < 14);
    functions.get(function).add(new int[] {op, a, b, c});
    return functions.get(function).size();
  }

  int spawn(double x, double y, double size) {
    argument(within(x, -16384, 16384) && within(y, -16384, 16384) && within(size, -16384, 16384));
    int number = create();
    state(number >= 0);
    entities[number].fields[0] = x;
    entities[number].fields[1] = y;
    entities[number].fields[4] = size;
    return number;
  }

  private int create() {
    for (int number = 0; number < 12; number++) {
      if (entities[number] == null) {
        entities[number] = new Entity();
        return number;
      }
    }
    return -1;
  }

  int remove(int number) {
    mustBeThere(number);
    entities[number] = null;
    return 1;
  }

  double set(int number, int field, double value) {
    double was = get(number, field);
    argument(within(value, -16384, 16384));
    entities[number].fields[field] = value;
    return was;
  }

  double get(int number, int field) {
    mustBeThere(number);
    argument(within(field, 0, 15));
    return entities[number].fields[field];
  }

  int setGlobal(int global, int eighths) {
    int was = global(global);
    argument(within(eighths, -131072, 131072));
    globals[global] = eighths / 8.0;
    return was;
  }

  int global(int global) {
    argument(within(global, 0, 23));
    return (int) (globals[global] * 8);
  }

  int run(int function, int self, int other) {
    argument(within(function, 0, 5) && within(self, -1, 11) && within(other, -1, 11));
    startRun(function, self, other);
    return done;
  }

  private void startRun(int function, int self, int other) {
    if (!within(function, 0, 5)) {
      return;
    }
    double was20 = globals[20];
    double was21 = globals[21];
    globals[20] = self;
    globals[21] = other;
    globals[22] = time;
    done = 0;
    try {
      perform(function, 0);
    } catch (Runaway e) {
      runaways++;
    }
    globals[20] = was20;
    globals[21] = was21;
    if (done >= 1) {
      runs++;
    }
  }

  private void perform(int function, int depth) throws Runaway {
    if (depth > 5) {
      throw new Runaway();
    }
    List<int[]> instructions = functions.get(function);
    int place = 0;
    while (place < instructions.size()) {
      if (done == 60) {
        throw new Runaway();
      }
      done++;
      int[] i = instructions.get(place);
      place++;
      if (i[0] == 9 && globals[i[1]] == 0 || i[0] == 10) {
        place = i[2];
      } else if (i[0] == 11) {
        perform(i[1], depth + 1);
      } else if (i[0] == 16) {
        return;
      } else if (i[0] != 9) {
        act(i[0], i[1], i[2], i[3]);
      }
    }
  }

  private void act(int op, int a, int b, int c) {
    if (op == 0) {
      globals[c] = b / 8.0;
    } else if (op == 1) {
      globals[c] = t(globals[a] + globals[b]);
    } else if (op == 2) {
      globals[c] = t(globals[a] - globals[b]);
    } else if (op == 3) {
      globals[c] = t(globals[a] * globals[b]);
    } else if (op == 4) {
      globals[c] = globals[a] < globals[b] ? 1 : 0;
    } else if (op == 5) {
      globals[c] = globals[a] == globals[b] ? 1 : 0;
    } else if (op == 6) {
      globals[c] = globals[a];
    } else if (op == 7) {
      globals[c] = entity(globals[a]) == null ? 0 : entity(globals[a]).fields[b];
    } else if (op == 8 && entity(globals[a]) != null) {
      entity(globals[a]).fields[b] = globals[c];
    } else if (op == 12) {
      globals[c] = create();
    } else if (op == 13 && entity(globals[a]) != null) {
      entities[(int) Math.floor(globals[a])] = null;
    } else if (op == 14) {
      int number = (int) Math.max(0, Math.floor(globals[a]) + 1);
      while (number < 12 && entities[number] == null) {
        number++;
      }
      globals[c] = number < 12 ? number : -1;
    } else if (op == 15) {
      drawState = (drawState * 1103515245L + 12345L) % 2147483648L;
      globals[c] = drawState / 65536 % 8 / 8.0;
    }
  }

  int tick(int n) {
    argument(within(n, 1, 4));
    for (int i = 0; i < n; i++) {
      time = t(time + 0.125);
      for (int number = 0; number < 12; number++) {
        if (entities[number] != null) {
          turn(number);
        }
      }
    }
    return count(0);
  }

  private void turn(int number) {
    int move = entities[number].whole(6);
    if (move == 1 || move == 2 || move == 3) {
      if (move != 1) {
        entities[number].fields[3] = t(entities[number].fields[3] - 8);
      }
      go(number, 0);
      if (entities[number] != null) {
        go(number, 1);
      }
      if (entities[number] != null && entities[number].whole(5) != 1) {
        touchTriggers(number);
      }
    }
    Entity entity = entities[number];
    if (entity != null && entity.fields[10] > 0 && entity.fields[10] <= time) {
      entity.fields[10] = 0;
      startRun(entity.whole(9) - 1, number, -1);
    }
  }

  private void go(int number, int axis) {
    Entity entity = entities[number];
    double velocity = entity.fields[2 + axis];
    double way = t(velocity / 8);
    if (way == 0) {
      return;
    }
    Blocker hit = null;
    for (Blocker blocker : blockers(number, axis, way > 0)) {
      boolean nearer = hit == null || blocker.distance < hit.distance;
      boolean before = hit != null && blocker.distance == hit.distance && blocker.number < hit.number;
      if (blocker.distance < Math.abs(way) && (nearer || before)) {
        hit = blocker;
      }
    }
    double far = hit == null ? Math.abs(way) : hit.distance;
    entity.fields[axis] = t(entity.fields[axis] + (way > 0 ? far : -far));
    if (hit == null) {
      return;
    }
    hits++;
    entity.fields[2 + axis] = entity.whole(6) == 3 ? t(-velocity / 2) : 0;
    startRun(entity.whole(8) - 1, number, hit.number);
    if (hit.number >= 0 && entities[number] != null && entities[hit.number] != null) {
      startRun(entities[hit.number].whole(8) - 1, hit.number, number);
    }
  }

  private List<Blocker> blockers(int number, int axis, boolean up) {
    Entity entity = entities[number];
    List<Blocker> found = new ArrayList<>();
    for (int[] wall : walls) {
      gather(found, -1, entity, axis, up, new double[] {wall[0], wall[1], wall[2], wall[3]});
    }
    for (int other = 0; other < 12; other++) {
      Entity e = entities[other];
      if (e == null || e.whole(5) != 2 || other == number) {
        continue;
      }
      boolean itsOwner = entity.whole(11) != 0 && entity.whole(11) - 1 == other;
      boolean itsOwned = e.whole(11) != 0 && e.whole(11) - 1 == number;
      if (!itsOwner && !itsOwned) {
        gather(found, other, entity, axis, up,
            new double[] {e.begin(0), e.begin(1), e.end(0), e.end(1)});
      }
    }
    return found;
  }

  private static void gather(
      List<Blocker> found, int number, Entity entity, int axis, boolean up, double[] box) {
    int across = 1 - axis;
    boolean overlap = box[across] < entity.end(across) && entity.begin(across) < box[across + 2];
    double distance = up ? box[axis] - entity.end(axis) : entity.begin(axis) - box[axis + 2];
    if (overlap && distance >= 0) {
      found.add(new Blocker(number, distance));
    }
  }

  private void touchTriggers(int number) {
    for (int other = 0; other < 12; other++) {
      Entity entity = entities[number];
      Entity trigger = entities[other];
      if (entity == null) {
        return;
      }
      if (trigger == null || other == number || trigger.whole(5) != 1) {
        continue;
      }
      boolean overlap = true;
      for (int axis = 0; axis < 2; axis++) {
        overlap &= trigger.begin(axis) < entity.end(axis) && entity.begin(axis) < trigger.end(axis);
      }
      if (overlap) {
        startRun(trigger.whole(8) - 1, other, number);
      }
    }
  }

  private double now(int number, int field) {
    if (field == 15) {
      return entities[number] == null ? 0 : 1;
    }
    return entities[number] == null ? 0 : entities[number].fields[field];
  }

  private List<Integer> codes() {
    List<Integer> codes = new ArrayList<>();
    for (int number = 0; number < 12; number++) {
      for (int field = 0; field < 16; field++) {
        if ((field <= 7 || field == 15) && now(number, field) != told[number][field]) {
          codes.add(16 * number + field);
        }
      }
    }
    return codes;
  }

  int changes() {
    return codes().size();
  }

  int change(int index) {
    if (index < 0 || index >= changes()) {
      throw new NoSuchElementException();
    }
    return codes().get(index);
  }

  int message() {
    int were = changes();
    for (int number = 0; number < 12; number++) {
      for (int field = 0; field < 16; field++) {
        told[number][field] = now(number, field);
      }
    }
    return were;
  }

  int count(int what) {
    argument(within(what, 0, 6));
    int there = 0;
    for (Entity entity : entities) {
      there += entity == null ? 0 : 1;
    }
    long[] counts = {there, walls.size(), (long) (time * 8), runaways, drawState, runs, hits};
    return (int) counts[what];
  }
}
