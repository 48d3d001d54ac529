import java.util.NoSuchElementException;

/**
 * A game server: entities that fly, fall and bounce among boxes, triggers and timers that run
 * small programs, and messages that tell only what has changed.
 *
 * <p>Inside, every number is an int that counts eighths, so that all arithmetic is exact.
 */
public final class QuakeServer {

  private static final int EIGHTHS = 8;
  private static final int GREATEST = 16384;
  private static final int GREATEST_EIGHTHS = GREATEST * EIGHTHS;

  private static final int ENTITIES = 12;
  private static final int FIELDS = 16;
  private static final int VX = 2;
  private static final int VY = 3;
  private static final int SIZE = 4;
  private static final int SOLID = 5;
  private static final int MOVE = 6;
  private static final int TOUCH = 8;
  private static final int THINK = 9;
  private static final int NEXT = 10;
  private static final int OWNER = 11;

  private static final int TRIGGER = 1;
  private static final int BLOCK = 2;
  private static final int FLY = 1;
  private static final int TOSS = 2;
  private static final int BOUNCE = 3;
  private static final int FALL_EIGHTHS = 8 * EIGHTHS;
  private static final int TICKS_A_TIME = 8;
  private static final int LEAST_SIZE_EIGHTHS = EIGHTHS;
  private static final int GREATEST_SIZE_EIGHTHS = 32 * EIGHTHS;

  private static final int AXIS_X = 0;
  private static final int AXIS_Y = 1;
  private static final int NOBODY = -1;
  private static final int WORLD = -1;
  private static final int NOTHING = -2;

  private static final int WALLS = 6;
  private static final int WORLD_EDGE = 1024;

  private static final int GLOBALS = 24;
  private static final int GLOBAL_SELF = 20;
  private static final int GLOBAL_OTHER = 21;
  private static final int GLOBAL_TIME = 22;
  private static final int FUNCTIONS = 6;
  private static final int PLACES = 14;
  private static final int GREATEST_WRITTEN = 16000;
  private static final int GREATEST_DONE = 60;
  private static final int GREATEST_DEPTH = 5;
  private static final int GREATEST_TICKS = 4;

  private static final int OP_WRITTEN = 0;
  private static final int OP_ADD = 1;
  private static final int OP_SUBTRACT = 2;
  private static final int OP_MULTIPLY = 3;
  private static final int OP_LESS = 4;
  private static final int OP_EQUAL = 5;
  private static final int OP_COPY = 6;
  private static final int OP_READ_FIELD = 7;
  private static final int OP_WRITE_FIELD = 8;
  private static final int OP_GO_IF_ZERO = 9;
  private static final int OP_GO = 10;
  private static final int OP_CALL = 11;
  private static final int OP_CREATE = 12;
  private static final int OP_ERASE = 13;
  private static final int OP_FIRST_BEHIND = 14;
  private static final int OP_DRAW = 15;
  private static final int OP_END = 16;

  private final Entities entities;
  private final Walls walls;
  private final Program program;
  private final Machine machine;
  private final Mover mover;
  private final LastMessage lastMessage;

  public QuakeServer() {
    entities = new Entities();
    walls = new Walls();
    program = new Program();
    machine = new Machine(entities, program);
    mover = new Mover(entities, walls, machine);
    lastMessage = new LastMessage(entities);
  }

  public int wall(int x1, int y1, int x2, int y2)
      throws IllegalArgumentException, IllegalStateException {
    if (!isInWorld(x1) || !isInWorld(y1) || !isInWorld(x2) || !isInWorld(y2)) {
      throw new IllegalArgumentException("a wall's side is not -1024 .. 1024");
    }
    if (x1 >= x2 || y1 >= y2) {
      throw new IllegalArgumentException("a wall ends where it begins, or before");
    }
    if (walls.number == WALLS) {
      throw new IllegalStateException("all walls are there");
    }
    return walls.add(x1, y1, x2, y2);
  }

  public int instr(int function, int op, int a, int b, int c)
      throws IllegalArgumentException, IllegalStateException {
    if (!isBelow(function, FUNCTIONS) || !Program.isSound(op, a, b, c)) {
      throw new IllegalArgumentException("no such instruction");
    }
    if (program.length(function) == PLACES) {
      throw new IllegalStateException("the function is full");
    }
    return program.add(function, op, a, b, c);
  }

  public int spawn(double x, double y, double size)
      throws IllegalArgumentException, IllegalStateException {
    if (!isNumber(x) || !isNumber(y) || !isNumber(size)) {
      throw new IllegalArgumentException("a number is out of range");
    }
    int entity = entities.create();
    if (entity == NOBODY) {
      throw new IllegalStateException("all entities are there");
    }
    entities.put(entity, AXIS_X, eighthsOf(x));
    entities.put(entity, AXIS_Y, eighthsOf(y));
    entities.put(entity, SIZE, eighthsOf(size));
    return entity;
  }

  public int remove(int entity) throws NoSuchElementException {
    if (!entities.isThere(entity)) {
      throw new NoSuchElementException("the entity is not there");
    }
    entities.erase(entity);
    return 1;
  }

  public double set(int entity, int field, double value)
      throws NoSuchElementException, IllegalArgumentException {
    if (!entities.isThere(entity)) {
      throw new NoSuchElementException("the entity is not there");
    }
    if (!isBelow(field, FIELDS) || !isNumber(value)) {
      throw new IllegalArgumentException("no such field or value");
    }
    double was = valueOf(entities.field(entity, field));
    entities.put(entity, field, eighthsOf(value));
    return was;
  }

  public double get(int entity, int field)
      throws NoSuchElementException, IllegalArgumentException {
    if (!entities.isThere(entity)) {
      throw new NoSuchElementException("the entity is not there");
    }
    if (!isBelow(field, FIELDS)) {
      throw new IllegalArgumentException("no such field");
    }
    return valueOf(entities.field(entity, field));
  }

  public int setGlobal(int global, int eighths) throws IllegalArgumentException {
    if (!isBelow(global, GLOBALS)
        || eighths < -GREATEST_EIGHTHS
        || eighths > GREATEST_EIGHTHS) {
      throw new IllegalArgumentException("no such global or number");
    }
    int was = machine.globals[global];
    machine.globals[global] = eighths;
    return was;
  }

  public int global(int global) throws IllegalArgumentException {
    if (!isBelow(global, GLOBALS)) {
      throw new IllegalArgumentException("no such global");
    }
    return machine.globals[global];
  }

  public int run(int function, int self, int other) throws IllegalArgumentException {
    if (!isBelow(function, FUNCTIONS) || !isEntityOrWorld(self) || !isEntityOrWorld(other)) {
      throw new IllegalArgumentException("no such function or entity");
    }
    return machine.start(function, self, other);
  }

  public int tick(int n) throws IllegalArgumentException {
    if (n < 1 || n > GREATEST_TICKS) {
      throw new IllegalArgumentException("not 1 .. 4 ticks");
    }
    for (int made = 0; made < n; made++) {
      machine.advanceTime();
      for (int entity = 0; entity < ENTITIES; entity++) {
        mover.takeTurn(entity);
      }
    }
    return entities.number();
  }

  public int changes() {
    return lastMessage.differences();
  }

  public int change(int index) throws NoSuchElementException {
    int code = lastMessage.difference(index);
    if (code == NOTHING) {
      throw new NoSuchElementException("there is no such change");
    }
    return code;
  }

  public int message() {
    int told = lastMessage.differences();
    lastMessage.tellAll();
    return told;
  }

  public int count(int what) throws IllegalArgumentException {
    switch (what) {
      case 0:
        return entities.number();
      case 1:
        return walls.number;
      case 2:
        return machine.time;
      case 3:
        return machine.runaways;
      case 4:
        return machine.drawState;
      case 5:
        return machine.workingRuns;
      case 6:
        return mover.hits;
      default:
        throw new IllegalArgumentException("nothing of that number is counted");
    }
  }

  private static boolean isBelow(int number, int bound) {
    return number >= 0 && number < bound;
  }

  private static boolean isEntityOrWorld(int number) {
    return number == WORLD || isBelow(number, ENTITIES);
  }

  private static boolean isInWorld(int side) {
    return side >= -WORLD_EDGE && side <= WORLD_EDGE;
  }

  // Written so that NaN, which is neither above nor below anything, is refused too.
  private static boolean isNumber(double value) {
    return value >= -GREATEST && value <= GREATEST;
  }

  // A cast goes towards 0; the document's T goes down.
  private static int eighthsOf(double value) {
    int cast = (int) (value * EIGHTHS);
    return cast > value * EIGHTHS ? cast - 1 : cast;
  }

  private static double valueOf(int eighths) {
    return eighths / 8.0;
  }

  // The shift goes down for negative numbers too, where a division would go towards 0.
  private static int wholeOf(int eighths) {
    return eighths >> 3;
  }

  private static int inRange(long eighths) {
    if (eighths > GREATEST_EIGHTHS) {
      return GREATEST_EIGHTHS;
    }
    return eighths < -GREATEST_EIGHTHS ? -GREATEST_EIGHTHS : (int) eighths;
  }

  /** Who is there, and their fields; the fields of one that is not there are kept at 0. */
  private static final class Entities {
    private final boolean[] there = new boolean[ENTITIES];
    private final int[] fields = new int[ENTITIES * FIELDS];

    boolean isThere(int entity) {
      return entity >= 0 && entity < ENTITIES && there[entity];
    }

    int number() {
      int number = 0;
      for (int entity = 0; entity < ENTITIES; entity++) {
        if (there[entity]) {
          number++;
        }
      }
      return number;
    }

    int create() {
      for (int entity = 0; entity < ENTITIES; entity++) {
        if (!there[entity]) {
          there[entity] = true;
          return entity;
        }
      }
      return NOBODY;
    }

    void erase(int entity) {
      if (!isThere(entity)) {
        return;
      }
      there[entity] = false;
      for (int field = 0; field < FIELDS; field++) {
        fields[entity * FIELDS + field] = 0;
      }
    }

    int firstBehind(int number) {
      for (int entity = 0; entity < ENTITIES; entity++) {
        if (entity > number && there[entity]) {
          return entity;
        }
      }
      return NOBODY;
    }

    int field(int entity, int field) {
      if (entity < 0 || entity >= ENTITIES) {
        return 0;
      }
      return fields[entity * FIELDS + field];
    }

    int wholeField(int entity, int field) {
      return wholeOf(field(entity, field));
    }

    void put(int entity, int field, int eighths) {
      if (isThere(entity)) {
        fields[entity * FIELDS + field] = eighths;
      }
    }

    int low(int entity, int axis) {
      return field(entity, axis) - sizeUsed(entity);
    }

    int high(int entity, int axis) {
      return field(entity, axis) + sizeUsed(entity);
    }

    private int sizeUsed(int entity) {
      int size = field(entity, SIZE);
      return Math.max(LEAST_SIZE_EIGHTHS, Math.min(GREATEST_SIZE_EIGHTHS, size));
    }

    boolean boxesOverlap(int one, int two, int axis) {
      int apart = Math.abs(field(one, axis) - field(two, axis));
      return apart < sizeUsed(one) + sizeUsed(two);
    }
  }

  /** The boxes of the world; their sides are kept in eighths, as all else is. */
  private static final class Walls {
    private final int[] lows = new int[WALLS * 2];
    private final int[] highs = new int[WALLS * 2];
    private int number;

    int add(int x1, int y1, int x2, int y2) {
      lows[number * 2 + AXIS_X] = x1 * EIGHTHS;
      lows[number * 2 + AXIS_Y] = y1 * EIGHTHS;
      highs[number * 2 + AXIS_X] = x2 * EIGHTHS;
      highs[number * 2 + AXIS_Y] = y2 * EIGHTHS;
      number++;
      return number - 1;
    }

    int low(int wall, int axis) {
      return lows[wall * 2 + axis];
    }

    int high(int wall, int axis) {
      return highs[wall * 2 + axis];
    }
  }

  /** The instructions of all functions, four ints each, in one row. */
  private static final class Program {
    private static final int PARTS = 4;

    private final int[] parts = new int[FUNCTIONS * PLACES * PARTS];
    private final int[] lengths = new int[FUNCTIONS];

    static boolean isSound(int op, int a, int b, int c) {
      switch (op) {
        case OP_WRITTEN:
          return b >= -GREATEST_WRITTEN && b <= GREATEST_WRITTEN && isBelow(c, GLOBALS);
        case OP_ADD:
        case OP_SUBTRACT:
        case OP_MULTIPLY:
        case OP_LESS:
        case OP_EQUAL:
          return isBelow(a, GLOBALS) && isBelow(b, GLOBALS) && isBelow(c, GLOBALS);
        case OP_READ_FIELD:
        case OP_WRITE_FIELD:
          return isBelow(a, GLOBALS) && isBelow(b, FIELDS) && isBelow(c, GLOBALS);
        case OP_COPY:
        case OP_FIRST_BEHIND:
          return isBelow(a, GLOBALS) && isBelow(c, GLOBALS);
        case OP_GO_IF_ZERO:
          return isBelow(a, GLOBALS) && isBelow(b, PLACES);
        case OP_GO:
          return isBelow(b, PLACES);
        case OP_CALL:
          return isBelow(a, FUNCTIONS);
        case OP_ERASE:
          return isBelow(a, GLOBALS);
        case OP_CREATE:
        case OP_DRAW:
          return isBelow(c, GLOBALS);
        default:
          return op == OP_END;
      }
    }

    int length(int function) {
      return lengths[function];
    }

    int firstPart(int function, int place) {
      return (function * PLACES + place) * PARTS;
    }

    int add(int function, int op, int a, int b, int c) {
      int first = firstPart(function, lengths[function]);
      parts[first] = op;
      parts[first + 1] = a;
      parts[first + 2] = b;
      parts[first + 3] = c;
      lengths[function]++;
      return lengths[function];
    }
  }

  /** The globals, the time and the draws, and the runs of the program over them. */
  private static final class Machine {
    private final Entities entities;
    private final Program program;
    private final int[] globals = new int[GLOBALS];
    private final int[] openFunctions = new int[GREATEST_DEPTH + 1];
    private final int[] openPlaces = new int[GREATEST_DEPTH + 1];
    private int depth;
    private boolean tooDeep;
    private int time;
    private int drawState = 1;
    private int runaways;
    private int workingRuns;

    Machine(Entities entities, Program program) {
      this.entities = entities;
      this.program = program;
    }

    void advanceTime() {
      time = inRange(time + 1L);
    }

    int start(int function, int self, int other) {
      if (!isBelow(function, FUNCTIONS)) {
        return 0;
      }
      int selfBefore = globals[GLOBAL_SELF];
      int otherBefore = globals[GLOBAL_OTHER];
      globals[GLOBAL_SELF] = self * EIGHTHS;
      globals[GLOBAL_OTHER] = other * EIGHTHS;
      globals[GLOBAL_TIME] = time;
      int done = perform(function);
      globals[GLOBAL_SELF] = selfBefore;
      globals[GLOBAL_OTHER] = otherBefore;
      if (done > 0) {
        workingRuns++;
      }
      return done;
    }

    private int perform(int function) {
      depth = 0;
      tooDeep = false;
      openFunctions[0] = function;
      openPlaces[0] = 0;
      leaveEndedFunctions();
      int done = 0;
      while (done < GREATEST_DONE && depth >= 0 && !tooDeep) {
        step();
        done++;
        leaveEndedFunctions();
      }
      // Whoever still stands at an instruction here has been stopped, and has not ended.
      if (depth >= 0 || tooDeep) {
        runaways++;
      }
      return done;
    }

    private void leaveEndedFunctions() {
      while (depth >= 0 && openPlaces[depth] >= program.length(openFunctions[depth])) {
        depth--;
      }
    }

    private void step() {
      int first = program.firstPart(openFunctions[depth], openPlaces[depth]);
      int op = program.parts[first];
      int a = program.parts[first + 1];
      int b = program.parts[first + 2];
      int c = program.parts[first + 3];
      openPlaces[depth]++;
      switch (op) {
        case OP_WRITE_FIELD:
          entities.put(wholeOf(globals[a]), b, globals[c]);
          break;
        case OP_GO_IF_ZERO:
          if (globals[a] == 0) {
            openPlaces[depth] = b;
          }
          break;
        case OP_GO:
          openPlaces[depth] = b;
          break;
        case OP_CALL:
          enter(a);
          break;
        case OP_ERASE:
          entities.erase(wholeOf(globals[a]));
          break;
        case OP_END:
          openPlaces[depth] = PLACES;
          break;
        default:
          globals[c] = result(op, a, b);
          break;
      }
    }

    private void enter(int function) {
      if (depth == GREATEST_DEPTH) {
        tooDeep = true;
        return;
      }
      depth++;
      openFunctions[depth] = function;
      openPlaces[depth] = 0;
    }

    private int result(int op, int a, int b) {
      switch (op) {
        case OP_WRITTEN:
          return b;
        case OP_ADD:
          return inRange((long) globals[a] + globals[b]);
        case OP_SUBTRACT:
          return inRange((long) globals[a] - globals[b]);
        case OP_MULTIPLY:
          return inRange(Math.floorDiv((long) globals[a] * globals[b], (long) EIGHTHS));
        case OP_LESS:
          return globals[a] < globals[b] ? EIGHTHS : 0;
        case OP_EQUAL:
          return globals[a] == globals[b] ? EIGHTHS : 0;
        case OP_COPY:
          return globals[a];
        case OP_READ_FIELD:
          return entities.field(wholeOf(globals[a]), b);
        case OP_CREATE:
          return entities.create() * EIGHTHS;
        case OP_FIRST_BEHIND:
          return entities.firstBehind(wholeOf(globals[a])) * EIGHTHS;
        default:
          return draw();
      }
    }

    private int draw() {
      drawState = (int) ((drawState * 1103515245L + 12345L) % 2147483648L);
      return drawState / 65536 % 8;
    }
  }

  /** Moves the entities, and starts the runs that their touching and thinking ask for. */
  private static final class Mover {
    private final Entities entities;
    private final Walls walls;
    private final Machine machine;
    private int hits;
    private int reach;
    private int met;

    Mover(Entities entities, Walls walls, Machine machine) {
      this.entities = entities;
      this.walls = walls;
      this.machine = machine;
    }

    // One that is gone, or goes on the way, needs no test here: its fields are 0, and with
    // them its moves and its time to think.
    void takeTurn(int entity) {
      int move = entities.wholeField(entity, MOVE);
      if (move == TOSS || move == BOUNCE) {
        entities.put(entity, VY, inRange(entities.field(entity, VY) - FALL_EIGHTHS));
      }
      if (move == FLY || move == TOSS || move == BOUNCE) {
        travel(entity, AXIS_X);
        travel(entity, AXIS_Y);
        touchTriggers(entity);
      }
      think(entity);
    }

    private void travel(int entity, int axis) {
      int hit = go(entity, axis);
      if (hit == NOTHING) {
        return;
      }
      hits++;
      machine.start(entities.wholeField(entity, TOUCH) - 1, entity, hit);
      if (entities.isThere(hit) && entities.isThere(entity)) {
        machine.start(entities.wholeField(hit, TOUCH) - 1, hit, entity);
      }
    }

    /** Answers what is hit: an entity, the WORLD or NOTHING. */
    private int go(int entity, int axis) {
      int velocity = entities.field(entity, VX + axis);
      int way = Math.floorDiv(velocity, TICKS_A_TIME);
      if (way == 0) {
        return NOTHING;
      }
      reach = Math.abs(way);
      met = NOTHING;
      // Who is met first stays met at the same distance: so a wall goes before an entity.
      meetWalls(entity, axis, way > 0);
      meetEntities(entity, axis, way > 0);
      int place = entities.field(entity, axis) + (way > 0 ? reach : -reach);
      entities.put(entity, axis, inRange(place));
      if (met != NOTHING) {
        boolean bounces = entities.wholeField(entity, MOVE) == BOUNCE;
        entities.put(entity, VX + axis, bounces ? inRange(Math.floorDiv(-velocity, 2)) : 0);
      }
      return met;
    }

    private void meetWalls(int entity, int axis, boolean forward) {
      int across = AXIS_Y - axis;
      int low = entities.low(entity, across);
      int high = entities.high(entity, across);
      for (int wall = 0; wall < walls.number; wall++) {
        if (low < walls.high(wall, across) && walls.low(wall, across) < high) {
          int distance =
              forward
                  ? walls.low(wall, axis) - entities.high(entity, axis)
                  : entities.low(entity, axis) - walls.high(wall, axis);
          meet(WORLD, distance);
        }
      }
    }

    private void meetEntities(int entity, int axis, boolean forward) {
      for (int other = 0; other < ENTITIES; other++) {
        if (mayBlock(other, entity) && entities.boxesOverlap(other, entity, AXIS_Y - axis)) {
          int distance =
              forward
                  ? entities.low(other, axis) - entities.high(entity, axis)
                  : entities.low(entity, axis) - entities.high(other, axis);
          meet(other, distance);
        }
      }
    }

    private boolean mayBlock(int other, int entity) {
      return other != entity
          && entities.wholeField(other, SOLID) == BLOCK
          && entities.wholeField(entity, OWNER) - 1 != other
          && entities.wholeField(other, OWNER) - 1 != entity;
    }

    private void meet(int what, int distance) {
      if (distance >= 0 && distance < reach) {
        reach = distance;
        met = what;
      }
    }

    private void touchTriggers(int entity) {
      if (entities.wholeField(entity, SOLID) == TRIGGER) {
        return;
      }
      for (int other = 0; other < ENTITIES && entities.isThere(entity); other++) {
        if (other != entity
            && entities.wholeField(other, SOLID) == TRIGGER
            && entities.boxesOverlap(other, entity, AXIS_X)
            && entities.boxesOverlap(other, entity, AXIS_Y)) {
          machine.start(entities.wholeField(other, TOUCH) - 1, other, entity);
        }
      }
    }

    private void think(int entity) {
      int next = entities.field(entity, NEXT);
      if (next > 0 && next <= machine.time) {
        entities.put(entity, NEXT, 0);
        machine.start(entities.wholeField(entity, THINK) - 1, entity, WORLD);
      }
    }
  }

  /** What the last message told; a place in the row is the code of the change at it. */
  private static final class LastMessage {
    private static final int TOLD_FIELDS = 8;
    private static final int THERE = 15;

    private final Entities entities;
    private final int[] told = new int[ENTITIES * FIELDS];

    LastMessage(Entities entities) {
      this.entities = entities;
    }

    private int now(int code) {
      int entity = code / FIELDS;
      int field = code % FIELDS;
      if (field == THERE) {
        return entities.isThere(entity) ? 1 : 0;
      }
      return field < TOLD_FIELDS ? entities.field(entity, field) : 0;
    }

    int differences() {
      int number = 0;
      for (int code = 0; code < told.length; code++) {
        if (now(code) != told[code]) {
          number++;
        }
      }
      return number;
    }

    /** The code of the difference at the index, NOTHING without one. */
    int difference(int index) {
      int before = 0;
      for (int code = 0; code < told.length; code++) {
        if (now(code) != told[code]) {
          if (before == index) {
            return code;
          }
          before++;
        }
      }
      return NOTHING;
    }

    void tellAll() {
      for (int code = 0; code < told.length; code++) {
        told[code] = now(code);
      }
    }
  }
}
