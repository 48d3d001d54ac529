/** Promise 11: how an entity goes along an axis, and what it hits. */
public final class GoingTest {
  private static final int X = Scene.X;
  private static final int Y = Scene.Y;
  private static final int VX = Scene.VX;
  private static final int VY = Scene.VY;
  private static final int SIZE = Scene.SIZE;
  private static final int SOLID = Scene.SOLID;
  private static final int MOVE = Scene.MOVE;
  private static final int TOUCH = Scene.TOUCH;
  private static final int OWNER = Scene.OWNER;

  public static void main(String[] args) {
    kindsOfMove();
    falling();
    waysGoDown();
    placesStayInRange();
    withoutAWayNothingIsHit();
    onlySolidTwoBlocks();
    oneDoesNotBlockItself();
    oneThatIsGoneDoesNotBlock();
    ownersDoNotBlock();
    whoIsAnOwner();
    sidesThatOnlyMeetDoNotOverlap();
    stretchesWithinStretches();
    whatIsBehindDoesNotBlock();
    hitsOnlyWithinTheWay();
    entitiesOnAllSides();
    sizesAreBroughtIntoRange();
    theNearestIsHit();
    aWallGoesBeforeAnEntity();
    theLeastNumberGoesFirst();
    velocitiesBehindAHit();
    bouncesGoDown();
    touchesOfAHit();
    aWallIsTheOtherMinusOne();
    touchesThatAreNoFunction();
    goneAlongX();
    oneOfTheTwoIsGone();
    Check.end();
  }

  private static void kindsOfMove() {
    Check.sentence("if MOVE is 1 FLY, 2 TOSS or 3 BOUNCE");
    double[][] moves = {
      // MOVE, then X, Y and VY behind a tick with VX 8 and VY 16
      {-16384, 0, 0, 16}, {-1, 0, 0, 16}, {-0.125, 0, 0, 16}, {0, 0, 0, 16}, {0.875, 0, 0, 16},
      {1, 1, 2, 16}, {1.875, 1, 2, 16}, {2, 1, 1, 8}, {2.875, 1, 1, 8}, {3, 1, 1, 8}, {3.875, 1, 1, 8},
      {4, 0, 0, 16}, {16384, 0, 0, 16}
    };
    for (double[] move : moves) {
      QuakeServer server = Scene.flyer(0, 0, 8, 16);
      server.set(0, MOVE, move[0]);
      server.tick(1);
      Check.due("X with MOVE " + move[0], move[1], server.get(0, X));
      Check.due("Y with MOVE " + move[0], move[2], server.get(0, Y));
      Check.due("VY with MOVE " + move[0], move[3], server.get(0, VY));
    }
  }

  private static void falling() {
    Check.sentence("1. For TOSS and BOUNCE VY becomes T(VY - 8).");
    double[][] falls = {
      {16384, 16376}, {8, 0}, {7.875, -0.125}, {0, -8}, {-16375.875, -16383.875}, {-16376, -16384},
      {-16376.125, -16384}, {-16384, -16384}
    };
    for (double[] fall : falls) {
      for (int move = 1; move <= 3; move++) {
        QuakeServer server = Scene.flyer(0, 0, 0, fall[0]);
        server.set(0, MOVE, move);
        server.tick(1);
        double due = move == 1 ? fall[0] : fall[1];
        Check.due("VY of " + fall[0] + " with MOVE " + move, due, server.get(0, VY));
        Check.due("Y by the new VY", Math.floor(due) / 8, server.get(0, Y));
      }
    }
  }

  private static void waysGoDown() {
    Check.sentence("2. It goes along x by the way T(VX / 8), then, if it is still there, "
        + "along y by T(VY / 8).");
    double[][] ways = {
      {16384, 2048}, {16383.875, 2047.875}, {8, 1}, {7.875, 0.875}, {1, 0.125}, {0.875, 0}, {0.125, 0},
      {0, 0}, {-0.125, -0.125}, {-1, -0.125}, {-1.125, -0.25}, {-8, -1}, {-16384, -2048}
    };
    for (double[] way : ways) {
      QuakeServer server = Scene.flyer(3, 4, way[0], 0);
      server.tick(1);
      Check.due("x with the velocity " + way[0], 3 + way[1], server.get(0, X));
      Check.due("y", 4, server.get(0, Y));
      server = Scene.flyer(3, 4, 0, way[0]);
      server.tick(1);
      Check.due("y with the velocity " + way[0], 4 + way[1], server.get(0, Y));
      Check.due("x", 3, server.get(0, X));
      Check.due("the velocity stays", way[0], server.get(0, VY));
    }
  }

  private static void placesStayInRange() {
    Check.sentence("The new place is T of it.");
    double[][] places = {
      // a place, a velocity, the new place
      {16383.875, 1, 16384}, {16383.875, 2, 16384}, {16384, 1, 16384}, {16000, 16384, 16384},
      {16384, 16384, 16384}, {-16383.875, -1, -16384}, {-16383.875, -2, -16384}, {-16384, -1, -16384},
      {-16000, -16384, -16384}, {-16384, -16384, -16384}, {16384, -1, 16383.875}
    };
    for (double[] place : places) {
      for (int axis = 0; axis < 2; axis++) {
        QuakeServer server = Scene.flyer(0, 0, 0, 0);
        server.set(0, axis, place[0]);
        server.set(0, VX + axis, place[1]);
        server.tick(1);
        Check.due("from " + place[0] + " by " + place[1], place[2], server.get(0, axis));
        Check.due("the edge is no hit", 0, server.count(6));
        Check.due("the velocity stays", place[1], server.get(0, VX + axis));
      }
    }
    QuakeServer server = Scene.flyer(16380, 0, 160, 0);
    Scene.block(server, 16384, 0, 1);
    server.tick(1);
    Check.due("one at the edge blocks", 16382, server.get(0, X));
  }

  private static void withoutAWayNothingIsHit() {
    Check.sentence("GOING along an axis by a way that is not 0");
    double[][] velocities = {
      // a velocity towards the blocker at distance 0, hits, and the velocity behind the tick
      {0, 0, 0}, {0.125, 0, 0.125}, {0.875, 0, 0.875}, {1, 1, 0}, {16384, 1, 0}
    };
    for (double[] velocity : velocities) {
      for (int axis = 0; axis < 2; axis++) {
        QuakeServer server = Scene.flyer(10, 10, 0, 0);
        server.wall(axis == 0 ? 11 : 0, axis == 0 ? 0 : 11, 20, 20);
        Scene.noting(server, 0);
        server.set(0, TOUCH, 1);
        server.set(0, VX + axis, velocity[0]);
        server.tick(1);
        Check.due("hits with " + velocity[0], velocity[1], server.count(6));
        Check.due("runs with " + velocity[0], velocity[1], server.count(5));
        Check.due("the velocity", velocity[2], server.get(0, VX + axis));
        Check.due("it stays", 10, server.get(0, axis));
      }
    }
    QuakeServer server = Scene.flyer(10, 10, -0.125, 0);
    server.wall(0, 0, 9, 20);
    server.tick(1);
    Check.due("below 0 the least velocity has a way", 1, server.count(6));
  }

  private static void onlySolidTwoBlocks() {
    Check.sentence("BLOCKERS are the walls and the entities that are there with SOLID 2");
    double[][] solids = {
      {-16384, 0}, {-2, 0}, {-0.125, 0}, {0, 0}, {1, 0}, {1.875, 0}, {2, 1}, {2.875, 1}, {3, 0}, {16384, 0}
    };
    for (double[] solid : solids) {
      for (int axis = 0; axis < 2; axis++) {
        QuakeServer server = Scene.flyer(0, 0, 0, 0);
        server.set(0, VX + axis, 800);
        Scene.block(server, axis == 0 ? 50 : 0, axis == 0 ? 0 : 50, 5);
        server.set(1, SOLID, solid[0]);
        server.tick(1);
        Check.due("hits with SOLID " + solid[0], solid[1], server.count(6));
        Check.due("place", solid[1] == 1 ? 44 : 100, server.get(0, axis));
      }
    }
    for (double own : new double[] {0, 1, 2, 3}) {
      QuakeServer server = Scene.flyer(0, 0, 800, 0);
      Scene.block(server, 50, 0, 5);
      server.set(0, SOLID, own);
      server.tick(1);
      Check.due("hits of one whose own SOLID is " + own, 1, server.count(6));
    }
  }

  private static void oneDoesNotBlockItself() {
    Check.sentence("but itself, its OWNER and those whose OWNER it is");
    for (int entities : new int[] {1, 12}) {
      QuakeServer server = Scene.crowd(entities);
      int last = entities - 1;
      Scene.fly(server, last, 800, -800);
      server.set(last, SOLID, 2);
      server.set(last, SIZE, -5);
      server.tick(1);
      Check.due("X", 100, server.get(last, X));
      Check.due("Y", -100, server.get(last, Y));
      Check.due("no hit", 0, server.count(6));
    }
  }

  private static void oneThatIsGoneDoesNotBlock() {
    Check.sentence("BLOCKERS are the walls and the entities that are there with SOLID 2");
    QuakeServer server = Scene.flyer(0, 0, 800, 0);
    Scene.block(server, 50, 0, 5);
    Scene.block(server, 70, 0, 5);
    server.remove(1);
    server.tick(1);
    Check.due("on to the one that is there", 64, server.get(0, X));
  }

  /** The hits of a mover that goes towards a block, with these numbers and owners. */
  private static int hits(int mover, double itsOwner, int block, double theBlocksOwner) {
    QuakeServer server = Scene.crowd(12);
    Scene.fly(server, mover, 800, 0);
    server.set(mover, OWNER, itsOwner);
    server.set(block, X, 50);
    server.set(block, SOLID, 2);
    server.set(block, OWNER, theBlocksOwner);
    server.tick(1);
    Check.due("place", server.count(6) == 1 ? 48 : 100, server.get(mover, X));
    return server.count(6);
  }

  private static void ownersDoNotBlock() {
    Check.sentence("but itself, its OWNER and those whose OWNER it is");
    Check.due("its owner", 0, hits(0, 2, 1, 0));
    Check.due("whose owner it is", 0, hits(0, 0, 1, 1));
    Check.due("each the other's", 0, hits(0, 2, 1, 1));
    Check.due("each its own", 1, hits(0, 1, 1, 2));
    Check.due("both of a third", 1, hits(0, 4, 1, 4));
    Check.due("the first is the owner", 0, hits(11, 1, 0, 0));
    Check.due("the last is the owner", 0, hits(0, 12, 11, 0));
    Check.due("the first is owned", 0, hits(11, 0, 0, 12));
    Check.due("the last is owned", 0, hits(0, 0, 11, 1));
    QuakeServer server = Scene.flyer(0, 0, 800, 0);
    server.wall(50, -5, 51, 5);
    server.set(0, OWNER, 1);
    server.tick(1);
    Check.due("a wall has no owner", 1, server.count(6));
  }

  private static void whoIsAnOwner() {
    Check.sentence("(an OWNER 0 is none; else the entity OWNER - 1)");
    for (double none : new double[] {-16384, -1, -0.125, 0, 0.125, 0.875, 13, 16384}) {
      Check.due("OWNER " + none + " of the mover", 1, hits(5, none, 0, 0));
      Check.due("OWNER " + none + " of the mover", 1, hits(5, none, 11, 0));
      Check.due("OWNER " + none + " of the block", 1, hits(0, 0, 5, none));
      Check.due("OWNER " + none + " of the block", 1, hits(11, 0, 5, none));
    }
    for (double first : new double[] {1, 1.125, 1.875}) {
      Check.due("OWNER " + first + " of the mover", 0, hits(5, first, 0, 0));
      Check.due("OWNER " + first + " of the block", 0, hits(0, 0, 5, first));
    }
    for (double last : new double[] {12, 12.875}) {
      Check.due("OWNER " + last + " of the mover", 0, hits(5, last, 11, 0));
      Check.due("OWNER " + last + " of the block", 0, hits(11, 0, 5, last));
    }
  }

  private static void sidesThatOnlyMeetDoNotOverlap() {
    Check.sentence("Two stretches OVERLAP if each begins before the other ends.");
    double[][] places = {{-1.125, 0}, {-1, 0}, {-0.875, 1}, {0, 1}, {4.875, 1}, {5, 0}, {5.125, 0}};
    for (double[] place : places) {
      QuakeServer server = Scene.flyer(0, place[0], 800, 0);
      server.wall(50, 0, 51, 4);
      server.tick(1);
      Check.due("hits of a wall from y = " + place[0], place[1], server.count(6));
      server = Scene.flyer(0, place[0], 800, 0);
      Scene.block(server, 50, 2, 2);
      server.tick(1);
      Check.due("hits of an entity from y = " + place[0], place[1], server.count(6));
      server = Scene.flyer(place[0], 0, 0, -800);
      server.wall(0, -51, 4, -50);
      server.tick(1);
      Check.due("hits of a wall from x = " + place[0], place[1], server.count(6));
      server = Scene.flyer(place[0], 0, 0, -800);
      Scene.block(server, 2, -50, 2);
      server.tick(1);
      Check.due("hits of an entity from x = " + place[0], place[1], server.count(6));
    }
  }

  private static void stretchesWithinStretches() {
    Check.sentence("that overlap it on the other axis");
    double[][] sizes = {{32, 1}, {1, 32}, {7, 7}};
    for (double[] size : sizes) {
      QuakeServer server = Scene.flyer(0, 0, 1600, 0);
      server.set(0, SIZE, size[0]);
      Scene.block(server, 100, 0, size[1]);
      server.tick(1);
      Check.due("hits of " + size[0] + " with " + size[1], 1, server.count(6));
      Check.due("place", 100 - size[0] - size[1], server.get(0, X));
    }
    QuakeServer server = Scene.flyer(0, 0, 1600, 0);
    server.set(0, SIZE, 32);
    server.wall(100, 3, 101, 4);
    server.tick(1);
    Check.due("a wall within its stretch", 68, server.get(0, X));
  }

  private static void whatIsBehindDoesNotBlock() {
    Check.sentence("and whose near side is not behind its own front side.");
    double[][] places = {
      // how far the near side lies before its front side, and whether it blocks
      {-100, 0}, {-1, 0}, {-0.125, 0}, {0, 1}, {0.125, 1}
    };
    for (double[] place : places) {
      for (int sign = -1; sign <= 1; sign += 2) {
        for (int axis = 0; axis < 2; axis++) {
          QuakeServer server = Scene.flyer(0, 0, 0, 0);
          server.set(0, VX + axis, sign * 800);
          int block = Scene.block(server, 0, 0, 2);
          server.set(block, axis, sign * (place[0] + 3));
          server.tick(1);
          Check.due("hits of one " + place[0] + " before it", place[1], server.count(6));
          Check.due("place", sign * (place[1] == 1 ? place[0] : 100), server.get(0, axis));
        }
      }
    }
    for (int side = 0; side <= 1; side++) {
      QuakeServer server = Scene.flyer(0, 0, 800, 0);
      server.wall(side, -5, 5, 5);
      server.tick(1);
      Check.due("hits of a wall from " + side + " on", side, server.count(6));
      server = Scene.flyer(0, 0, -800, 0);
      server.wall(-5, -5, -side, 5);
      server.tick(1);
      Check.due("hits of a wall up to " + -side, side, server.count(6));
    }
  }

  private static void hitsOnlyWithinTheWay() {
    Check.sentence("The least DISTANCE from its front side to a near side, "
        + "if it is less than the size of the way, is how far it goes, and it HITS");
    // The wall's side is 10 away from the front side.
    double[][] ways = {{9.875, 9.875, 0}, {10, 10, 0}, {10.125, 10, 1}, {2000, 10, 1}};
    for (double[] way : ways) {
      for (int sign = -1; sign <= 1; sign += 2) {
        for (int axis = 0; axis < 2; axis++) {
          QuakeServer server = Scene.flyer(0, 0, 0, 0);
          server.set(0, VX + axis, sign * way[0] * 8);
          server.wall(11, -20, 21, 20);
          server.wall(-21, -20, -11, 20);
          server.wall(-20, 11, 20, 21);
          server.wall(-20, -21, 20, -11);
          server.tick(1);
          Check.due("place behind the way " + sign * way[0], sign * way[1], server.get(0, axis));
          Check.due("hits on the way " + sign * way[0], way[2], server.count(6));
          Check.due("velocity", way[2] == 1 ? 0 : sign * way[0] * 8, server.get(0, VX + axis));
        }
      }
    }
    Check.sentence("if the distance is not less, it goes the whole way.");
    QuakeServer near = Scene.flyer(0, 0, 1, 0);
    Scene.block(near, 6.125, 0, 5);
    near.tick(1);
    Check.due("a way of an eighth up to the side", 0.125, near.get(0, X));
    Check.due("no hit", 0, near.count(6));
    near.tick(1);
    Check.due("and no further", 0.125, near.get(0, X));
    Check.due("a hit", 1, near.count(6));
    near.set(0, X, 0);
    near.set(0, VX, 2);
    near.tick(1);
    Check.due("a way of two eighths ends behind one", 0.125, near.get(0, X));
    Check.due("another hit", 2, near.count(6));
  }

  private static void entitiesOnAllSides() {
    Check.sentence("Its BOX goes from X - that to X + that, and so for Y.");
    double[][] ways = {{800, 0, 44, 0}, {-800, 0, -44, 0}, {0, 800, 0, 44}, {0, -800, 0, -44}};
    for (double[] way : ways) {
      QuakeServer server = Scene.flyer(0, 0, way[0], way[1]);
      Scene.block(server, 50, 0, 5);
      Scene.block(server, -50, 0, 5);
      Scene.block(server, 0, 50, 5);
      Scene.block(server, 0, -50, 5);
      server.tick(1);
      Check.due("x at the entity's side", way[2], server.get(0, X));
      Check.due("y at the entity's side", way[3], server.get(0, Y));
      Check.due("one hit", 1, server.count(6));
    }
  }

  private static void sizesAreBroughtIntoRange() {
    Check.sentence("THE SIZE USED is SIZE brought to 1 .. 32.");
    double[][] sizes = {
      {-16384, 1}, {-5, 1}, {0, 1}, {0.875, 1}, {1, 1}, {1.125, 1.125}, {31.875, 31.875}, {32, 32},
      {32.125, 32}, {16384, 32}
    };
    for (double[] size : sizes) {
      for (int axis = 0; axis < 2; axis++) {
        QuakeServer server = Scene.flyer(0, 0, 0, 0);
        server.set(0, VX + axis, 8000);
        server.set(0, SIZE, size[0]);
        server.wall(axis == 0 ? 100 : -1, axis == 0 ? -1 : 100, 101, 101);
        server.tick(1);
        Check.due("own size " + size[0], 100 - size[1], server.get(0, axis));
        server = Scene.flyer(0, 0, 0, 0);
        server.set(0, VX + axis, 8000);
        Scene.block(server, axis == 0 ? 100 : 0, axis == 0 ? 0 : 100, size[0]);
        server.tick(1);
        Check.due("a blocker's size " + size[0], 99 - size[1], server.get(0, axis));
        Check.due("the field stays", size[0], server.get(1, SIZE));
      }
      QuakeServer server = Scene.flyer(0, size[1] + 1, 8000, 0);
      Scene.block(server, 100, 0, size[0]);
      server.tick(1);
      Check.due("past the size " + size[0], 0, server.count(6));
    }
  }

  private static void theNearestIsHit() {
    Check.sentence("The least DISTANCE from its front side to a near side");
    QuakeServer server = Scene.flyer(0, 0, 8000, 0);
    Scene.block(server, 300, 0, 5);
    Scene.block(server, 200, 0, 5);
    int nearest = Scene.block(server, 100, 0, 5);
    Scene.block(server, 105, 0, 9.875);
    server.wall(400, -5, 401, 5);
    server.wall(96, -5, 401, 5);
    Scene.noting(server, 0);
    server.set(0, TOUCH, 1);
    server.tick(1);
    Check.due("it stops at the nearest", 94, server.get(0, X));
    Check.due("which is hit", nearest * 8, server.global(1));
    server.set(0, X, 0);
    server.set(0, VX, 8000);
    server.set(nearest, X, 101.125);
    server.set(4, X, 106);
    server.tick(1);
    Check.due("a wall an eighth nearer", 95, server.get(0, X));
    Check.due("is hit", -8, server.global(1));
    server.set(0, X, 0);
    server.set(0, VX, 8000);
    server.set(nearest, X, 100.875);
    server.tick(1);
    Check.due("an entity an eighth nearer", 94.875, server.get(0, X));
    Check.due("is hit", nearest * 8, server.global(1));
  }

  private static void aWallGoesBeforeAnEntity() {
    Check.sentence("of the blockers at that distance a wall, if there is one");
    QuakeServer server = Scene.crowd(1);
    Scene.block(server, 0, 0, 1);
    Scene.fly(server, 1, -8000, 0);
    server.set(0, X, -100);
    server.set(0, SIZE, 5);
    server.set(0, SOLID, 2);
    server.wall(-100, -5, -95, 5);
    Scene.noting(server, 0);
    server.instr(1, 0, 0, 9, 9);
    server.set(1, TOUCH, 1);
    server.set(0, TOUCH, 2);
    server.tick(1);
    Check.due("it stops there", -94, server.get(1, X));
    Check.due("the world is the other", -8, server.global(1));
    Check.due("the entity at that distance is not hit", 0, server.global(9));
    Check.due("one hit", 1, server.count(6));
  }

  private static void theLeastNumberGoesFirst() {
    Check.sentence("else the entity with the least number");
    int[][] numbers = {{0, 1, 2}, {5, 3, 7}, {5, 7, 9}, {5, 0, 11}, {11, 9, 10}, {0, 10, 11}};
    for (int[] n : numbers) {
      for (int sign = -1; sign <= 1; sign += 2) {
        QuakeServer server = Scene.crowd(12);
        Scene.fly(server, n[0], 0, sign * 800);
        Scene.noting(server, 0);
        server.set(n[0], TOUCH, 1);
        for (int which = 1; which <= 2; which++) {
          server.set(n[which], SOLID, 2);
          server.set(n[which], Y, sign * (which == 1 ? 55 : 50));
          server.set(n[which], SIZE, which == 1 ? 10 : 5);
        }
        server.tick(1);
        Check.due("it stops there", sign * 44, server.get(n[0], Y));
        Check.due("the least of the two is hit", n[1] * 8, server.global(1));
      }
    }
  }

  private static void velocitiesBehindAHit() {
    Check.sentence("If it hits, the velocity along that axis becomes 0");
    for (double move : new double[] {1, 1.875, 2, 2.875}) {
      for (int sign = -1; sign <= 1; sign += 2) {
        QuakeServer server = Scene.flyer(0, 0, sign * 800, 88);
        server.set(0, MOVE, move);
        server.wall(50, -5, 51, 5);
        server.wall(-51, -5, -50, 5);
        server.tick(1);
        Check.due("VX", 0, server.get(0, VX));
        Check.due("VY stays but for the fall", move < 2 ? 88 : 80, server.get(0, VY));
      }
    }
    QuakeServer server = Scene.flyer(0, 0, 80, -800);
    server.wall(-5, -51, 50, -50);
    server.tick(1);
    Check.due("VY", 0, server.get(0, VY));
    Check.due("VX stays", 80, server.get(0, VX));
  }

  private static void bouncesGoDown() {
    Check.sentence("for BOUNCE T(-v / 2)");
    double[][] bounces = {
      // VX at a wall on either side, and VX behind the hit
      {16384, -8192}, {16383.875, -8192}, {800, -400}, {800.125, -400.125}, {1.125, -0.625}, {1, -0.5},
      {-0.125, 0}, {-0.25, 0.125}, {-0.375, 0.125}, {-0.5, 0.25}, {-800, 400}, {-800.125, 400},
      {-16384, 8192}
    };
    for (double[] bounce : bounces) {
      for (double move : new double[] {3, 3.875}) {
        QuakeServer server = Scene.flyer(0, 0, bounce[0], 0);
        server.set(0, MOVE, move);
        server.wall(1, -5, 2, 5);
        server.wall(-2, -5, -1, 5);
        server.tick(1);
        Check.due("VX behind a hit at " + bounce[0], bounce[1], server.get(0, VX));
        Check.due("a hit", 1, server.count(6));
        Check.due("VY", -8, server.get(0, VY));
      }
    }
    QuakeServer server = Scene.flyer(0, 10, 16, -792);
    server.set(0, MOVE, 3);
    server.wall(-100, -10, 100, 0);
    server.tick(1);
    Check.due("on the ground", 1, server.get(0, Y));
    Check.due("VY goes up again", 400, server.get(0, VY));
    Check.due("VX stays", 16, server.get(0, VX));
    Check.due("X goes on", 2, server.get(0, X));
  }

  private static void touchesOfAHit() {
    Check.sentence("then a run of its TOUCH - 1 with it as self, and the entity hit, "
        + "or -1 for a wall, as other");
    QuakeServer server = Scene.flyer(0, 0, 800, 0);
    Scene.block(server, 50, 0, 5);
    // Function 1 writes who was self and other first, function 2 who were so then.
    server.instr(1, 6, 20, 0, 0);
    server.instr(1, 6, 21, 0, 1);
    server.instr(1, 7, 20, VX, 4);
    server.instr(1, 7, 20, X, 5);
    server.instr(2, 6, 20, 0, 2);
    server.instr(2, 6, 21, 0, 3);
    server.instr(2, 6, 0, 0, 6);
    server.set(0, TOUCH, 2.875);
    server.set(1, TOUCH, 3);
    for (int global = 0; global < 7; global++) {
      server.setGlobal(global, 99);
    }
    server.tick(1);
    Check.due("first self: the mover", 0, server.global(0));
    Check.due("first other: who was hit", 8, server.global(1));
    Check.due("the velocity is 0 by then", 0, server.global(4));
    Check.due("it stands at its new place by then", 44 * 8, server.global(5));
    Check.sentence("a run of that one's TOUCH - 1 with that one as self and this one as other");
    Check.due("then self: who was hit", 8, server.global(2));
    Check.due("then other: the mover", 0, server.global(3));
    Check.due("the mover's run comes first", 0, server.global(6));
    Check.due("two runs", 2, server.count(5));
    Check.due("one hit", 1, server.count(6));
  }

  private static void aWallIsTheOtherMinusOne() {
    Check.sentence("The whole world counts as the other -1.");
    for (int mover : new int[] {0, 11}) {
      QuakeServer server = Scene.crowd(12);
      Scene.noting(server, 5);
      Scene.fly(server, mover, 0, -800);
      server.set(mover, TOUCH, 6);
      server.wall(-5, -60, 5, -50);
      server.tick(1);
      Check.due("self", mover * 8, server.global(0));
      Check.due("other", -8, server.global(1));
      Check.due("one run", 8, server.global(3));
    }
  }

  private static void touchesThatAreNoFunction() {
    Check.sentence("Of SOLID, MOVE, TOUCH, THINK and OWNER the whole counts.");
    double[][] touches = {
      // TOUCH, and the function that runs by it, or -1
      {-16384, -1}, {-1, -1}, {-0.125, -1}, {0, -1}, {0.875, -1}, {1, 0}, {1.875, 0}, {6, 5}, {6.875, 5},
      {7, -1}, {16384, -1}
    };
    for (double[] touch : touches) {
      for (int toucher = 0; toucher < 2; toucher++) {
        QuakeServer server = Scene.flyer(0, 0, 800, 0);
        Scene.block(server, 50, 0, 5);
        for (int function = 0; function < 6; function++) {
          server.instr(function, 0, 0, function + 1, 0);
        }
        server.set(toucher, TOUCH, touch[0]);
        server.setGlobal(22, 99);
        server.tick(1);
        Check.due("what runs by TOUCH " + touch[0], touch[1] + 1, server.global(0));
        Check.due("runs by TOUCH " + touch[0], touch[1] < 0 ? 0 : 1, server.count(5));
        Check.due("global 22 by TOUCH " + touch[0], touch[1] < 0 ? 99 : 1, server.global(22));
        Check.due("it hits all the same", 1, server.count(6));
      }
    }
  }

  /** Function 0 removes self, 1 removes other, 2 counts in global 5. */
  private static void goneProgram(QuakeServer server) {
    server.instr(0, 13, 20, 0, 0);
    server.instr(1, 13, 21, 0, 0);
    server.instr(2, 0, 0, 8, 6);
    server.instr(2, 1, 5, 6, 5);
  }

  private static void goneAlongX() {
    Check.sentence("then, if it is still there, along y by T(VY / 8)");
    QuakeServer server = Scene.flyer(0, 0, 800, 800);
    goneProgram(server);
    server.wall(50, -5, 51, 5);
    server.wall(-60, 50, 60, 51);
    server.set(0, TOUCH, 1);
    Check.due("the mover is gone by its own run", 0, server.tick(1));
    Check.due("one hit", 1, server.count(6));
    server = Scene.flyer(0, 0, 800, 800);
    goneProgram(server);
    Scene.block(server, 50, 0, 5);
    server.set(1, TOUCH, 2);
    server.wall(-60, 50, 60, 51);
    Check.due("the mover is gone by the other's run", 1, server.tick(1));
    Check.due("one hit", 1, server.count(6));
    Check.due("one run", 1, server.count(5));
  }

  private static void oneOfTheTwoIsGone() {
    Check.sentence("then, if an entity was hit, and both are still there");
    QuakeServer server = Scene.flyer(0, 0, 800, 0);
    goneProgram(server);
    Scene.block(server, 50, 0, 5);
    server.set(0, TOUCH, 1);
    server.set(1, TOUCH, 3);
    Check.due("the mover is gone", 1, server.tick(1));
    Check.due("so who was hit has no run", 0, server.global(5));

    server = Scene.flyer(0, 0, 800, 0);
    goneProgram(server);
    Scene.block(server, 50, 0, 5);
    server.set(0, TOUCH, 2);
    server.set(1, TOUCH, 3);
    Check.due("who was hit is gone", 1, server.tick(1));
    Check.due("and has no run", 0, server.global(5));
    Check.due("the mover stands where it hit", 44, server.get(0, X));

    server = Scene.flyer(0, 0, 800, 0);
    goneProgram(server);
    Scene.block(server, 50, 0, 5);
    server.set(0, TOUCH, 3);
    server.set(1, TOUCH, 3);
    Check.due("both are there", 2, server.tick(1));
    Check.due("and have a run each", 16, server.global(5));
  }
}
