/** Promise 11: tick, the order of its turns, its triggers and its thinking. */
public final class TickTest {
  private static final int X = Scene.X;
  private static final int Y = Scene.Y;
  private static final int VX = Scene.VX;
  private static final int VY = Scene.VY;
  private static final int SIZE = Scene.SIZE;
  private static final int SOLID = Scene.SOLID;
  private static final int MOVE = Scene.MOVE;
  private static final int HEALTH = Scene.HEALTH;
  private static final int TOUCH = Scene.TOUCH;
  private static final int THINK = Scene.THINK;
  private static final int NEXT = Scene.NEXT;
  private static final int OWNER = Scene.OWNER;

  public static void main(String[] args) {
    howManyAreThere();
    wrongNumbersOfTicks();
    timeGoes();
    turnsByRisingNumbers();
    movingAndThinkingInOneTurn();
    thereWhenItsTurnComes();
    boxesOfTriggers();
    sizesOfTriggers();
    whoTouchesTriggers();
    whoIsATrigger();
    oneDoesNotTriggerItself();
    triggersByRisingNumbers();
    oneGoneTheRestIsLeftOut();
    triggersThatGoOnTheWay();
    thinkingInTime();
    nextBecomesZero();
    thinkingWithoutMoving();
    thinkingBehindMoving();
    goneBeforeThinking();
    changesOnTheWay();
    Check.end();
  }

  private static void howManyAreThere() {
    Check.sentence("Makes n (1 .. 4) ticks; answers how many entities are there.");
    for (int entities = 0; entities <= 12; entities++) {
      QuakeServer server = Scene.crowd(entities);
      Check.due("entities", entities, server.tick(1));
    }
    for (int n = 1; n <= 4; n++) {
      QuakeServer server = Scene.flyer(0, 0, 8, -16);
      Check.due("tick " + n, 1, server.tick(n));
      Check.due("time", n, server.count(2));
      Check.due("X", n, server.get(0, X));
      Check.due("Y", -2 * n, server.get(0, Y));
    }
  }

  private static void wrongNumbersOfTicks() {
    Check.sentence("IllegalArgumentException: out of range.");
    QuakeServer server = Scene.flyer(0, 0, 8, 0);
    for (int wrong : new int[] {0, -1, 5, Integer.MIN_VALUE, Integer.MAX_VALUE}) {
      Check.argument("tick " + wrong, () -> server.tick(wrong));
    }
    Check.due("no time has gone", 0, server.count(2));
    Check.due("nobody has moved", 0, server.get(0, X));
    Check.due("tick 1", 1, server.tick(1));
    Check.due("tick 4", 1, server.tick(4));
  }

  private static void timeGoes() {
    Check.sentence("A TICK: the time becomes T(time + 1/8)");
    QuakeServer server = new QuakeServer();
    for (int tick = 1; tick <= 100; tick++) {
      server.tick(1);
      Check.due("time", tick, server.count(2));
    }
    server.instr(0, 6, 22, 0, 0);
    server.spawn(0, 0, 0);
    server.set(0, THINK, 1);
    server.set(0, NEXT, 12.625);
    server.tick(1);
    Check.due("a turn has the new time", 101, server.global(0));
  }

  private static void turnsByRisingNumbers() {
    Check.sentence("then for each entity, by rising numbers");
    QuakeServer server = Scene.crowd(12);
    // Each that thinks writes twice what was there plus its number into global 0.
    server.instr(0, 1, 0, 0, 0);
    server.instr(0, 1, 0, 20, 0);
    int due = 0;
    for (int entity = 0; entity < 12; entity++) {
      server.set(entity, THINK, 1);
      server.set(entity, NEXT, 0.125);
      due = due * 2 + entity * 8;
    }
    server.tick(1);
    Check.due("0 to 11", due, server.global(0));
    Check.due("each has a turn", 12, server.count(5));
  }

  private static void movingAndThinkingInOneTurn() {
    Check.sentence("then for each entity, by rising numbers");
    QuakeServer server = Scene.crowd(2);
    server.set(0, THINK, 1);
    server.set(0, NEXT, 0.125);
    server.set(1, X, 9);
    Scene.fly(server, 1, 8, 0);
    server.instr(0, 14, 20, 0, 0);
    server.instr(0, 7, 0, X, 1);
    server.tick(1);
    Check.due("the next one has not moved yet", 72, server.global(1));
    Check.due("but then", 10, server.get(1, X));
  }

  private static void thereWhenItsTurnComes() {
    Check.sentence("if it is there when its turn comes");
    // Entity 1 thinks: it makes a new one that flies, with velocity 8.
    QuakeServer server = Scene.crowd(2);
    server.set(1, THINK, 1);
    server.set(1, NEXT, 0.125);
    server.instr(0, 12, 0, 0, 0);
    server.instr(0, 0, 0, 8, 1);
    server.instr(0, 0, 0, 64, 2);
    server.instr(0, 8, 0, MOVE, 1);
    server.instr(0, 8, 0, VX, 2);
    Check.due("one more", 3, server.tick(1));
    Check.due("behind the maker it has its turn at once", 1, server.get(2, X));
    server.remove(0);
    server.set(1, NEXT, 0.125);
    Check.due("one more", 3, server.tick(1));
    Check.due("before the maker it has not", 0, server.get(0, X));
    // Entity 1 removes the next one before its turn.
    server.instr(1, 14, 20, 0, 0);
    server.instr(1, 13, 0, 0, 0);
    server.set(2, NEXT, 0.125);
    server.set(2, THINK, 3);
    server.instr(2, 0, 0, 9, 9);
    server.set(1, THINK, 2);
    server.set(1, NEXT, 0.125);
    Check.due("one less", 2, server.tick(1));
    Check.due("and it had no turn", 0, server.global(9));
  }

  /** Entity 0 flies at (0, 0) with size 1; entity 1 is a trigger at (x, y) of size 2. */
  private static QuakeServer withTrigger(double x, double y) {
    QuakeServer server = Scene.flyer(0, 0, 0, 0);
    Scene.trigger(server, x, y, 2, 1);
    Scene.noting(server, 0);
    return server;
  }

  private static void boxesOfTriggers() {
    Check.sentence("if it is there and their boxes overlap both ways: a run of that one's TOUCH - 1 "
        + "with that one as self and this one as other");
    double[][] places = {
      {0, 0, 1}, {2.875, 0, 1}, {3, 0, 0}, {-2.875, 0, 1}, {-3, 0, 0}, {0, 2.875, 1}, {0, 3, 0},
      {0, -2.875, 1}, {0, -3, 0}, {3, 3, 0}, {2.875, -2.875, 1}, {-2.875, 3, 0}, {3, -2.875, 0}
    };
    for (double[] place : places) {
      QuakeServer server = withTrigger(place[0], place[1]);
      server.setGlobal(1, 99);
      server.tick(1);
      Check.due("runs of a trigger at " + place[0] + ", " + place[1], place[2], server.count(5));
      Check.due("self is the trigger", place[2] == 1 ? 8 : 0, server.global(0));
      Check.due("other is the mover", place[2] == 1 ? 0 : 99, server.global(1));
      Check.due("no hit", 0, server.count(6));
    }
    QuakeServer moving = withTrigger(50, 0);
    moving.set(0, VX, 400);
    moving.tick(1);
    Check.due("it touches where it has come to", 1, moving.count(5));
    moving.tick(1);
    Check.due("and no longer where it has left", 1, moving.count(5));
  }

  private static void sizesOfTriggers() {
    Check.sentence("THE SIZE USED is SIZE brought to 1 .. 32.");
    double[][] sizes = {{-16384, 1}, {0, 1}, {1, 1}, {31.875, 31.875}, {32, 32}, {32.125, 32}, {16384, 32}};
    for (double[] size : sizes) {
      for (int axis = 0; axis < 2; axis++) {
        QuakeServer server = withTrigger(0, 0);
        server.set(1, SIZE, size[0]);
        server.set(1, axis, size[1] + 1);
        server.tick(1);
        Check.due("beside a trigger of " + size[0], 0, server.count(5));
        server.set(1, axis, size[1] + 0.875);
        server.tick(1);
        Check.due("in a trigger of " + size[0], 1, server.count(5));
      }
    }
  }

  private static void whoTouchesTriggers() {
    Check.sentence("3. If it is still there, and SOLID is not 1");
    double[][] kinds = {
      // MOVE and SOLID of the mover, runs
      {1, -0.125, 1}, {1, 0, 1}, {1, 0.875, 1}, {1, 1, 0}, {1, 1.125, 0}, {1, 1.875, 0}, {1, 2, 1},
      {1, 3, 1}, {1, -1, 1}, {2, 0, 1}, {3, 0, 1}, {3, 1, 0}, {0, 0, 0}, {4, 0, 0}, {-1, 0, 0}
    };
    for (double[] kind : kinds) {
      QuakeServer server = withTrigger(0, 0);
      server.set(0, MOVE, kind[0]);
      server.set(0, SOLID, kind[1]);
      server.tick(1);
      Check.due("runs with MOVE " + kind[0] + ", SOLID " + kind[1], kind[2], server.count(5));
    }
    QuakeServer server = withTrigger(0, 0);
    server.set(0, OWNER, 2);
    server.set(1, OWNER, 1);
    server.tick(1);
    Check.due("an owner's trigger is touched too", 1, server.count(5));
  }

  private static void whoIsATrigger() {
    Check.sentence("for each entity with SOLID 1");
    double[][] solids = {
      {-16384, 0}, {-1, 0}, {0, 0}, {0.875, 0}, {1, 1}, {1.875, 1}, {2, 0}, {3, 0}, {16384, 0}
    };
    for (double[] solid : solids) {
      QuakeServer server = withTrigger(0, 0);
      server.set(1, SOLID, solid[0]);
      server.tick(1);
      Check.due("runs with SOLID " + solid[0], solid[1], server.count(5));
    }
    double[][] touches = {{-16384, 0}, {0, 0}, {0.875, 0}, {1, 1}, {1.875, 1}, {7, 0}, {16384, 0}};
    for (double[] touch : touches) {
      QuakeServer server = withTrigger(0, 0);
      server.set(1, TOUCH, touch[0]);
      server.setGlobal(22, 99);
      server.tick(1);
      Check.due("runs with TOUCH " + touch[0], touch[1], server.count(5));
      Check.due("global 22", touch[1] == 1 ? 1 : 99, server.global(22));
    }
  }

  private static void oneDoesNotTriggerItself() {
    Check.sentence("for each entity with SOLID 1, not itself");
    for (int mover = 0; mover < 12; mover++) {
      QuakeServer server = Scene.crowd(12);
      Scene.noting(server, 0);
      for (int entity = 0; entity < 12; entity++) {
        server.set(entity, SOLID, entity == mover ? 0 : 1);
        server.set(entity, TOUCH, 1);
      }
      server.set(mover, MOVE, 1);
      server.tick(1);
      Check.due("all others are touched", 11, server.count(5));
      Check.due("the last one last", mover == 11 ? 80 : 88, server.global(0));
    }
    // The trigger 0 makes the mover 1 a trigger while its step is under way.
    QuakeServer server = Scene.crowd(2);
    server.set(0, SOLID, 1);
    server.set(0, TOUCH, 1);
    server.set(1, TOUCH, 2);
    server.set(1, MOVE, 1);
    server.instr(0, 0, 0, 8, 0);
    server.instr(0, 8, 21, SOLID, 0);
    server.instr(1, 0, 0, 9, 9);
    server.tick(1);
    Check.due("it is a trigger now", 1, server.get(1, SOLID));
    Check.due("but not its own", 0, server.global(9));
  }

  private static void triggersByRisingNumbers() {
    Check.sentence("by rising numbers, if it is there and their boxes overlap both ways");
    QuakeServer server = Scene.crowd(12);
    // Each trigger that is touched writes twice what was there plus its number into global 0.
    server.instr(0, 1, 0, 0, 0);
    server.instr(0, 1, 0, 20, 0);
    server.set(6, MOVE, 1);
    int due = 0;
    for (int entity : new int[] {0, 1, 5, 7, 10, 11}) {
      server.set(entity, SOLID, 1);
      server.set(entity, TOUCH, 1);
      due = due * 2 + entity * 8;
    }
    server.tick(1);
    Check.due("0, 1, 5, 7, 10, 11", due, server.global(0));
  }

  private static void oneGoneTheRestIsLeftOut() {
    Check.sentence("this one gone, the rest is left out.");
    // The trigger 1 notes and goes on, the trigger 2 removes the mover, the trigger 3 is left out.
    QuakeServer server = Scene.crowd(1);
    server.set(0, MOVE, 1);
    for (int trigger = 1; trigger <= 3; trigger++) {
      Scene.trigger(server, 0, 0, 1, trigger == 2 ? 2 : 1);
    }
    server.instr(0, 6, 20, 0, 0);
    server.instr(1, 13, 21, 0, 0);
    Check.due("the mover is gone", 3, server.tick(1));
    Check.due("the last note is the first trigger's", 8, server.global(0));
    Check.due("two runs", 2, server.count(5));
  }

  private static void triggersThatGoOnTheWay() {
    Check.sentence("if it is there and their boxes overlap both ways");
    // Function 0 removes the one behind self, function 1 puts the mover elsewhere.
    QuakeServer server = Scene.crowd(1);
    server.set(0, MOVE, 1);
    for (int trigger = 1; trigger <= 3; trigger++) {
      Scene.trigger(server, 0, 0, 1, 1);
    }
    server.instr(0, 14, 20, 0, 1);
    server.instr(0, 13, 1, 0, 0);
    server.instr(1, 0, 0, 800, 2);
    server.instr(1, 8, 21, X, 2);
    Check.due("the trigger 2 is gone by the run of 1", 3, server.tick(1));
    Check.due("it has no run, but 3 has", 2, server.count(5));
    server.set(1, TOUCH, 2);
    server.tick(1);
    Check.due("only the first, which puts the mover elsewhere", 3, server.count(5));
    Check.due("there", 100, server.get(0, X));
  }

  /** An entity with this NEXT, and THINK 3.875 for function 2, at this time in eighths. */
  private static QuakeServer thinker(double next, int time) {
    QuakeServer server = Scene.crowd(1);
    for (int tick = 1; tick < time; tick++) {
      server.tick(1);
    }
    Scene.noting(server, 2);
    server.setGlobal(0, 99);
    server.set(0, THINK, 3.875);
    server.set(0, NEXT, next);
    server.tick(1);
    return server;
  }

  private static void thinkingInTime() {
    Check.sentence("Then, if it is still there, NEXT is above 0, and NEXT is at most the time");
    double[][] times = {
      // NEXT, the time in eighths, and whether it thinks
      {-16384, 1, 0}, {-0.125, 1, 0}, {0, 1, 0}, {0.125, 1, 1}, {0.25, 1, 0}, {16384, 1, 0},
      {0, 16, 0}, {0.125, 16, 1}, {1, 16, 1}, {1.875, 16, 1}, {2, 16, 1}, {2.125, 16, 0}, {3, 16, 0}
    };
    for (double[] time : times) {
      QuakeServer server = thinker(time[0], (int) time[1]);
      String told = "NEXT " + time[0] + " at " + time[1] + " eighths";
      Check.due("runs with " + told, time[2], server.count(5));
      Check.due("what stays of " + told, time[2] == 1 ? 0 : time[0], server.get(0, NEXT));
      Check.due("self", time[2] == 1 ? 0 : 99, server.global(0));
      Check.due("other", time[2] == 1 ? -8 : 0, server.global(1));
      Check.due("time", time[2] == 1 ? time[1] : 0, server.global(2));
    }
  }

  private static void nextBecomesZero() {
    Check.sentence("NEXT becomes 0, and a run of THINK - 1 with it as self, -1 as other.");
    QuakeServer server = Scene.crowd(1);
    server.instr(0, 7, 20, NEXT, 3);
    server.setGlobal(3, 99);
    server.set(0, THINK, 1);
    server.set(0, NEXT, 0.125);
    server.tick(4);
    Check.due("NEXT is 0 by the time of the run", 0, server.global(3));
    Check.due("only once", 1, server.count(5));
    server.set(0, NEXT, 0.125);
    server.set(0, THINK, 0);
    server.tick(1);
    Check.due("nothing to run", 1, server.count(5));
    Check.due("NEXT becomes 0 all the same", 0, server.get(0, NEXT));
    server.instr(3, 8, 20, NEXT, 22);
    server.set(0, THINK, 4);
    server.set(0, NEXT, 0.125);
    server.tick(4);
    Check.due("one that sets NEXT again thinks again", 5, server.count(5));
  }

  private static void thinkingWithoutMoving() {
    Check.sentence("Then, if it is still there, NEXT is above 0");
    for (double move : new double[] {-1, 0, 1, 2, 3, 4}) {
      QuakeServer server = Scene.crowd(1);
      Scene.noting(server, 0);
      server.set(0, MOVE, move);
      server.set(0, THINK, 1);
      server.set(0, NEXT, 0.125);
      server.tick(1);
      Check.due("runs with MOVE " + move, 1, server.count(5));
    }
  }

  private static void thinkingBehindMoving() {
    Check.sentence("Then, if it is still there, NEXT is above 0");
    QuakeServer server = Scene.flyer(0, 0, 8, 16);
    server.set(0, NEXT, 0.125);
    server.set(0, THINK, 1);
    server.instr(0, 7, 20, X, 0);
    server.instr(0, 7, 20, Y, 1);
    server.tick(1);
    Check.due("X as it is behind the move", 8, server.global(0));
    Check.due("Y as it is behind the move", 16, server.global(1));
  }

  private static void goneBeforeThinking() {
    Check.sentence("Then, if it is still there, NEXT is above 0");
    QuakeServer server = withTrigger(0, 0);
    server.instr(1, 13, 21, 0, 0);
    server.set(1, TOUCH, 2);
    server.set(0, THINK, 1);
    server.set(0, NEXT, 0.125);
    Check.due("removed by the trigger", 1, server.tick(1));
    Check.due("it does not think", 1, server.count(5));
    Check.due("nor note", 0, server.global(3));
  }

  private static void changesOnTheWay() {
    Check.sentence("2. It goes along x by the way T(VX / 8), then, if it is still there, "
        + "along y by T(VY / 8).");
    // The run of a hit along x sets VY: the way along y is taken behind it.
    QuakeServer server = Scene.flyer(0, 0, 800, 0);
    server.set(0, TOUCH, 1);
    server.wall(50, -5, 51, 5);
    server.instr(0, 0, 0, 320, 0);
    server.instr(0, 8, 20, VY, 0);
    server.instr(0, 8, 20, HEALTH, 0);
    server.tick(1);
    Check.due("Y by the new VY", 5, server.get(0, Y));
    Check.due("HEALTH", 40, server.get(0, HEALTH));
    // One that is no longer of a kind that moves still goes along y, and bounces no more.
    QuakeServer still = Scene.flyer(0, 0, 800, 88);
    still.set(0, MOVE, 3);
    still.set(0, TOUCH, 1);
    still.wall(50, -5, 51, 5);
    still.wall(40, 6, 60, 7);
    still.instr(0, 8, 20, MOVE, 0);
    still.tick(1);
    Check.due("VX bounced", -400, still.get(0, VX));
    Check.due("Y up to the wall", 5, still.get(0, Y));
    Check.due("VY is 0, for MOVE is", 0, still.get(0, VY));
    Check.due("two hits", 2, still.count(6));
  }
}
