/** Promise 11: the order of a tick, its triggers and its thinking. */
public final class TickTest {
  private static final int X = 0;
  private static final int VX = 2;
  private static final int VY = 3;
  private static final int SOLID = 5;
  private static final int MOVE = 6;
  private static final int HEALTH = 7;
  private static final int TOUCH = 8;
  private static final int THINK = 9;
  private static final int NEXT = 10;
  private static final int OWNER = 11;

  public static void main(String[] args) {
    answersAndWrongInputs();
    triggersTouch();
    whoTouchesTriggers();
    triggersInTurn();
    triggersOfAnyNumber();
    thinking();
    thinkingBehindMoving();
    turnsByRisingNumbers();
    entitiesThatComeOnTheWay();
    changesOnTheWay();
    Check.end();
  }

  private static void answersAndWrongInputs() {
    QuakeServer server = new QuakeServer();
    for (int wrong : new int[] {0, -1, 5, Integer.MIN_VALUE, Integer.MAX_VALUE}) {
      Check.argument("tick " + wrong, () -> server.tick(wrong));
    }
    Check.due("no time has gone", 0, server.count(2));
    int time = 0;
    for (int n = 1; n <= 4; n++) {
      server.spawn(0, 0, 1);
      Check.due("entities", n, server.tick(n));
      time += n;
      Check.due("time", time, server.count(2));
    }
    server.set(0, MOVE, 1);
    server.set(0, VX, 8);
    server.tick(4);
    Check.due("four ways", 4, server.get(0, X));
  }

  /** Entity 0 flies at (0, 0) with size 1; entity 1 is a trigger at (x, y) of size 2. */
  private static QuakeServer withTrigger(double x, double y) {
    QuakeServer server = new QuakeServer();
    server.spawn(0, 0, 1);
    server.set(0, MOVE, 1);
    server.spawn(x, y, 2);
    server.set(1, SOLID, 1);
    server.set(1, TOUCH, 1);
    server.instr(0, 6, 20, 0, 0);
    server.instr(0, 6, 21, 0, 1);
    server.instr(0, 0, 0, 8, 2);
    server.instr(0, 1, 2, 3, 3);
    return server;
  }

  private static void triggersTouch() {
    double[][] places = {
      {0, 0, 1}, {2.875, 0, 1}, {3, 0, 0}, {-2.875, 0, 1}, {-3, 0, 0},
      {0, 2.875, 1}, {0, 3, 0}, {0, -2.875, 1}, {0, -3, 0}, {3, 3, 0}, {2.875, -2.875, 1}
    };
    for (double[] place : places) {
      QuakeServer server = withTrigger(place[0], place[1]);
      server.setGlobal(1, 99);
      server.tick(1);
      Check.due("runs of a trigger at " + place[0] + ", " + place[1], place[2], server.count(5));
      if (place[2] == 1) {
        Check.due("self is the trigger", 8, server.global(0));
        Check.due("other is the mover", 0, server.global(1));
      }
      Check.due("no hit", 0, server.count(6));
    }
    QuakeServer moving = withTrigger(50, 0);
    moving.set(0, VX, 400);
    moving.tick(1);
    Check.due("it touches where it has come to", 1, moving.count(5));
    moving.tick(1);
    Check.due("and no longer where it has left", 1, moving.count(5));
  }

  private static void whoTouchesTriggers() {
    QuakeServer server = withTrigger(0, 0);
    double[][] kinds = {
      // MOVE and SOLID of the mover, SOLID of the trigger, runs
      {0, 0, 1, 0}, {4, 0, 1, 0}, {1, 0, 1, 1}, {1, 2, 1, 1}, {1, 1, 1, 0}, {1, 1.875, 1, 0}, {1, 0.875, 1, 1},
      {1, 0, 1.875, 1}, {1, 0, 0, 0}, {1, 0, 2, 0}, {1, 0, 0.875, 0}
    };
    int runs = 0;
    for (double[] kind : kinds) {
      server.set(0, MOVE, kind[0]);
      server.set(0, SOLID, kind[1]);
      server.set(1, SOLID, kind[2]);
      server.tick(1);
      runs += (int) kind[3];
      Check.due("runs with " + java.util.Arrays.toString(kind), runs, server.count(5));
    }
    server.set(1, SOLID, 1);
    server.set(0, OWNER, 2);
    server.tick(1);
    Check.due("an owner's trigger is touched too", runs + 1, server.count(5));
    server.set(1, TOUCH, 0);
    server.tick(1);
    Check.due("TOUCH 0 has no run", runs + 1, server.count(5));
  }

  private static void triggersInTurn() {
    // The trigger 1 notes and goes on, the trigger 2 removes the mover, the trigger 3 is left out.
    QuakeServer server = new QuakeServer();
    server.spawn(0, 0, 1);
    server.set(0, MOVE, 1);
    for (int trigger = 1; trigger <= 3; trigger++) {
      server.spawn(0, 0, 1);
      server.set(trigger, SOLID, 1);
      server.set(trigger, TOUCH, trigger == 2 ? 2 : 1);
    }
    server.instr(0, 6, 20, 0, 0);
    server.instr(1, 13, 21, 0, 0);
    server.set(0, NEXT, 0.125);
    server.set(0, THINK, 1);
    Check.due("the mover is gone", 3, server.tick(1));
    Check.due("the last note is the first trigger's", 8, server.global(0));
    Check.due("two runs", 2, server.count(5));

    // A trigger's run that removes the next trigger, or makes its SOLID 0.
    QuakeServer next = new QuakeServer();
    next.spawn(0, 0, 1);
    next.set(0, MOVE, 1);
    for (int trigger = 1; trigger <= 2; trigger++) {
      next.spawn(0, 0, 1);
      next.set(trigger, SOLID, 1);
      next.set(trigger, TOUCH, 1);
    }
    next.instr(0, 14, 20, 0, 1);
    next.instr(0, 13, 1, 0, 0);
    Check.due("the next trigger is gone", 2, next.tick(1));
    Check.due("and has no run", 1, next.count(5));
  }

  private static void triggersOfAnyNumber() {
    for (int mover = 0; mover < 12; mover++) {
      QuakeServer server = new QuakeServer();
      server.instr(0, 6, 20, 0, 0);
      for (int entity = 0; entity < 12; entity++) {
        server.spawn(0, 0, 1);
        server.set(entity, SOLID, entity == mover ? 0 : 1);
        server.set(entity, TOUCH, 1);
      }
      server.set(mover, MOVE, 1);
      server.tick(1);
      Check.due("all others are touched", 11, server.count(5));
      Check.due("the last one last", mover == 11 ? 80 : 88, server.global(0));
    }
  }

  private static void thinking() {
    QuakeServer server = new QuakeServer();
    server.spawn(0, 0, 1);
    server.instr(2, 6, 20, 0, 0);
    server.instr(2, 6, 21, 0, 1);
    server.instr(2, 6, 22, 0, 2);
    server.instr(2, 7, 20, NEXT, 3);
    server.setGlobal(0, 99);
    server.setGlobal(3, 99);
    server.set(0, THINK, 3.875);
    server.set(0, NEXT, 0.25);
    server.tick(1);
    Check.due("it is not yet time", 0, server.count(5));
    Check.due("NEXT stays", 0.25, server.get(0, NEXT));
    server.tick(1);
    Check.due("now it is", 1, server.count(5));
    Check.due("self", 0, server.global(0));
    Check.due("other", -8, server.global(1));
    Check.due("time", 2, server.global(2));
    Check.due("NEXT is 0 by then", 0, server.global(3));
    server.tick(4);
    Check.due("only once", 1, server.count(5));
    server.set(0, NEXT, -0.125);
    server.tick(1);
    Check.due("not with NEXT below 0", 1, server.count(5));
    Check.due("NEXT stays", -0.125, server.get(0, NEXT));
    server.set(0, NEXT, 0.125);
    server.set(0, THINK, 0);
    server.tick(1);
    Check.due("nothing to run", 1, server.count(5));
    Check.due("NEXT becomes 0 all the same", 0, server.get(0, NEXT));
    server.instr(3, 8, 20, NEXT, 22);
    server.set(0, THINK, 4);
    server.set(0, NEXT, 0.125);
    server.tick(4);
    Check.due("one that sets NEXT again thinks again", 5, server.count(5));
  }

  private static void thinkingBehindMoving() {
    QuakeServer server = new QuakeServer();
    server.spawn(0, 0, 1);
    server.set(0, MOVE, 1);
    server.set(0, VX, 8);
    server.set(0, NEXT, 0.125);
    server.set(0, THINK, 1);
    server.instr(0, 7, 20, X, 0);
    server.tick(1);
    Check.due("X as it is behind the move", 8, server.global(0));
  }

  private static void turnsByRisingNumbers() {
    QuakeServer server = new QuakeServer();
    // Each that thinks writes 10 times what was there plus its number into global 0.
    server.instr(0, 3, 0, 1, 0);
    server.instr(0, 1, 0, 20, 0);
    server.setGlobal(1, 80);
    for (int entity = 0; entity < 4; entity++) {
      server.spawn(0, 0, 1);
      server.set(entity, THINK, 1);
      server.set(entity, NEXT, 0.125);
    }
    server.remove(1);
    server.tick(1);
    Check.due("0, 2, 3", 23 * 8, server.global(0));

    // An entity moves and thinks before the next one moves.
    QuakeServer whole = new QuakeServer();
    whole.spawn(0, 0, 1);
    whole.spawn(9, 0, 1);
    whole.set(0, THINK, 1);
    whole.set(0, NEXT, 0.125);
    whole.set(1, MOVE, 1);
    whole.set(1, VX, 8);
    whole.instr(0, 14, 20, 0, 0);
    whole.instr(0, 7, 0, X, 1);
    whole.tick(1);
    Check.due("the next one has not moved yet", 72, whole.global(1));
    Check.due("but then", 10, whole.get(1, X));
  }

  private static void entitiesThatComeOnTheWay() {
    // Entity 1 thinks: it makes a new one that flies, with velocity 8.
    QuakeServer server = new QuakeServer();
    server.spawn(0, 0, 1);
    server.spawn(0, 0, 1);
    server.set(1, THINK, 1);
    server.set(1, NEXT, 0.125);
    server.instr(0, 12, 0, 0, 0);
    server.instr(0, 0, 0, 8, 1);
    server.instr(0, 0, 0, 64, 2);
    server.instr(0, 8, 0, MOVE, 1);
    server.instr(0, 8, 0, VX, 2);
    Check.due("one more", 3, server.tick(1));
    Check.due("behind the maker it has its turn at once", 1, server.get(2, X));
    server.remove(0);
    server.set(1, NEXT, 0.125);
    Check.due("one more", 3, server.tick(1));
    Check.due("before the maker it has not", 0, server.get(0, X));
    // Entity 1 removes the next one before its turn.
    server.instr(1, 14, 20, 0, 0);
    server.instr(1, 13, 0, 0, 0);
    server.set(2, NEXT, 0.125);
    server.set(2, THINK, 3);
    server.instr(2, 0, 0, 9, 9);
    server.set(1, THINK, 2);
    server.set(1, NEXT, 0.125);
    Check.due("one less", 2, server.tick(1));
    Check.due("and it had no turn", 0, server.global(9));
  }

  private static void changesOnTheWay() {
    // The run of a hit along x sets VY: the way along y is taken behind it.
    QuakeServer server = new QuakeServer();
    server.spawn(0, 0, 1);
    server.set(0, MOVE, 1);
    server.set(0, VX, 800);
    server.set(0, TOUCH, 1);
    server.wall(50, -5, 51, 5);
    server.instr(0, 0, 0, 320, 0);
    server.instr(0, 8, 20, VY, 0);
    server.instr(0, 8, 20, HEALTH, 0);
    server.tick(1);
    Check.due("Y by the new VY", 5, server.get(0, 1));
    Check.due("HEALTH", 40, server.get(0, HEALTH));
    // One that is no longer of a kind that moves still goes along y, and bounces no more.
    QuakeServer still = new QuakeServer();
    still.spawn(0, 0, 1);
    still.set(0, MOVE, 3);
    still.set(0, VX, 800);
    still.set(0, VY, 88);
    still.set(0, TOUCH, 1);
    still.wall(50, -5, 51, 5);
    still.wall(40, 6, 60, 7);
    still.instr(0, 8, 20, MOVE, 0);
    still.tick(1);
    Check.due("VX bounced", -400, still.get(0, VX));
    Check.due("Y up to the wall", 5, still.get(0, 1));
    Check.due("VY is 0, for MOVE is", 0, still.get(0, VY));
    Check.due("two hits", 2, still.count(6));
  }
}
