/** Promise 11: how an entity goes along an axis, and what it hits. */
public final class GoingTest {
  private static final int X = 0;
  private static final int Y = 1;
  private static final int VX = 2;
  private static final int VY = 3;
  private static final int SIZE = 4;
  private static final int SOLID = 5;
  private static final int MOVE = 6;
  private static final int TOUCH = 8;
  private static final int OWNER = 11;

  public static void main(String[] args) {
    waysGoDown();
    placesStayInRange();
    kindsOfMove();
    hitsOnlyWithinTheWay();
    entitiesOnAllSides();
    sizesAreBroughtInRange();
    sidesThatOnlyMeetDoNotOverlap();
    whatIsBehindDoesNotBlock();
    theNearestIsHit();
    aWallGoesBeforeAnEntity();
    onlySolidTwoBlocks();
    owners();
    velocitiesBehindAHit();
    touchesOfAHit();
    goneOnTheWay();
    Check.end();
  }

  /** A server with entity 0 at (x, y) of size 1 that flies. */
  private static QuakeServer flyer(double x, double y, double vx, double vy) {
    QuakeServer server = new QuakeServer();
    server.spawn(x, y, 1);
    server.set(0, MOVE, 1);
    server.set(0, VX, vx);
    server.set(0, VY, vy);
    return server;
  }

  private static int block(QuakeServer server, double x, double y, double size) {
    int block = server.spawn(x, y, size);
    server.set(block, SOLID, 2);
    return block;
  }

  private static void waysGoDown() {
    double[][] ways = {{8, 1}, {7.875, 0.875}, {1, 0.125}, {0.875, 0}, {0, 0}, {-0.125, -0.125}, {-1, -0.125}, {-1.125, -0.25}};
    for (double[] way : ways) {
      QuakeServer server = flyer(3, 4, way[0], 0);
      server.tick(1);
      Check.due("x with the velocity " + way[0], 3 + way[1], server.get(0, X));
      Check.due("y", 4, server.get(0, Y));
      server = flyer(3, 4, 0, way[0]);
      server.tick(1);
      Check.due("y with the velocity " + way[0], 4 + way[1], server.get(0, Y));
      Check.due("x", 3, server.get(0, X));
      Check.due("the velocity stays", way[0], server.get(0, VY));
    }
  }

  private static void placesStayInRange() {
    QuakeServer server = flyer(16000, -16000, 16384, -16384);
    server.tick(1);
    Check.due("greatest place", 16384, server.get(0, X));
    Check.due("least place", -16384, server.get(0, Y));
    Check.due("no hit", 0, server.count(6));
    Check.due("the velocity stays", 16384, server.get(0, VX));
  }

  private static void kindsOfMove() {
    double[][] moves = {
      // MOVE, then X, Y and VY behind a tick with VX 8 and VY 16
      {0, 0, 0, 16}, {0.875, 0, 0, 16}, {1, 1, 2, 16}, {1.875, 1, 2, 16}, {2, 1, 1, 8},
      {3, 1, 1, 8}, {3.875, 1, 1, 8}, {4, 0, 0, 16}, {-1, 0, 0, 16}
    };
    for (double[] move : moves) {
      QuakeServer server = flyer(0, 0, 8, 16);
      server.set(0, MOVE, move[0]);
      server.tick(1);
      Check.due("X with MOVE " + move[0], move[1], server.get(0, X));
      Check.due("Y with MOVE " + move[0], move[2], server.get(0, Y));
      Check.due("VY with MOVE " + move[0], move[3], server.get(0, VY));
    }
    QuakeServer server = flyer(0, 0, 0, -16383);
    server.set(0, MOVE, 2);
    server.tick(1);
    Check.due("falling goes down to the limit", -16384, server.get(0, VY));
  }

  private static void hitsOnlyWithinTheWay() {
    // The wall's side is 10 away from the front side.
    double[][] ways = {{9.875, 9.875, 0}, {10, 10, 0}, {10.125, 10, 1}, {2000, 10, 1}};
    for (double[] way : ways) {
      for (int sign = -1; sign <= 1; sign += 2) {
        for (int axis = 0; axis < 2; axis++) {
          QuakeServer server = flyer(0, 0, 0, 0);
          server.set(0, VX + axis, sign * way[0] * 8);
          server.wall(11, -20, 21, 20);
          server.wall(-21, -20, -11, 20);
          server.wall(-20, 11, 20, 21);
          server.wall(-20, -21, 20, -11);
          server.tick(1);
          Check.due("place behind the way " + sign * way[0], sign * way[1], server.get(0, axis));
          Check.due("hits on the way " + sign * way[0], way[2], server.count(6));
          Check.due("velocity", way[2] == 1 ? 0 : sign * way[0] * 8, server.get(0, VX + axis));
        }
      }
    }
    QuakeServer server = flyer(10, 0, 0, 0);
    server.wall(11, -5, 12, 5);
    server.tick(1);
    Check.due("without a way nothing is hit", 0, server.count(6));
    server.set(0, VX, 0.875);
    server.tick(1);
    Check.due("a way that T makes 0", 0, server.count(6));
    server.set(0, VX, 1);
    server.tick(1);
    Check.due("a hit at the distance 0", 1, server.count(6));
    Check.due("it stays", 10, server.get(0, X));
  }

  private static void entitiesOnAllSides() {
    double[][] ways = {{800, 0, 44, 0}, {-800, 0, -44, 0}, {0, 800, 0, 44}, {0, -800, 0, -44}};
    for (double[] way : ways) {
      QuakeServer server = flyer(0, 0, way[0], way[1]);
      block(server, 50, 0, 5);
      block(server, -50, 0, 5);
      block(server, 0, 50, 5);
      block(server, 0, -50, 5);
      server.tick(1);
      Check.due("x at the entity's side", way[2], server.get(0, X));
      Check.due("y at the entity's side", way[3], server.get(0, Y));
      Check.due("one hit", 1, server.count(6));
    }
    QuakeServer near = flyer(0, 0, 2, 0);
    block(near, 6.125, 0, 5);
    near.tick(1);
    Check.due("a way of two eighths stops behind one", 0.125, near.get(0, X));
    near.set(0, VX, 1);
    near.tick(1);
    Check.due("a way of one eighth is blocked", 0.125, near.get(0, X));
  }

  private static void sizesAreBroughtInRange() {
    double[][] sizes = {{-5, 1}, {0, 1}, {0.875, 1}, {1, 1}, {1.125, 1.125}, {31.875, 31.875}, {32, 32}, {32.125, 32}, {16384, 32}};
    for (double[] size : sizes) {
      QuakeServer server = flyer(0, 0, 8000, 0);
      server.set(0, SIZE, size[0]);
      server.wall(100, -1, 101, 1);
      server.tick(1);
      Check.due("own size " + size[0], 100 - size[1], server.get(0, X));
      server = flyer(0, 0, 8000, 0);
      block(server, 100, 0, size[0]);
      server.tick(1);
      Check.due("a blocker's size " + size[0], 99 - size[1], server.get(0, X));
      Check.due("the field stays", size[0], server.get(1, SIZE));
    }
  }

  private static void sidesThatOnlyMeetDoNotOverlap() {
    double[][] places = {{-1, 0}, {-0.875, 1}, {0, 1}, {4.875, 1}, {5, 0}};
    for (double[] place : places) {
      QuakeServer server = flyer(0, place[0], 800, 0);
      server.wall(50, 0, 51, 4);
      server.tick(1);
      Check.due("hits of a wall from y = " + place[0], place[1], server.count(6));
      server = flyer(0, place[0], 800, 0);
      block(server, 50, 2, 2);
      server.tick(1);
      Check.due("hits of an entity from y = " + place[0], place[1], server.count(6));
      server = flyer(place[0], 0, 0, -800);
      server.wall(0, -51, 4, -50);
      server.tick(1);
      Check.due("hits of a wall from x = " + place[0], place[1], server.count(6));
      server = flyer(place[0], 0, 0, -800);
      block(server, 2, -50, 2);
      server.tick(1);
      Check.due("hits of an entity from x = " + place[0], place[1], server.count(6));
    }
  }

  private static void whatIsBehindDoesNotBlock() {
    QuakeServer server = flyer(0, 0, 800, 0);
    server.wall(0, -5, 5, 5);
    block(server, -10, 0, 2);
    block(server, 2.875, 0, 2);
    server.tick(1);
    Check.due("out of what it stands in", 100, server.get(0, X));
    Check.due("no hit", 0, server.count(6));
    server.set(0, X, 0);
    server.set(2, X, 3);
    server.tick(1);
    Check.due("a near side at the front side blocks", 0, server.get(0, X));
    Check.due("a hit", 1, server.count(6));
  }

  private static void theNearestIsHit() {
    QuakeServer server = flyer(0, 0, 8000, 0);
    block(server, 300, 0, 5);
    block(server, 200, 0, 5);
    int nearest = block(server, 100, 0, 5);
    block(server, 105, 0, 10);
    server.wall(400, -5, 401, 5);
    server.wall(96, -5, 401, 5);
    server.instr(0, 6, 21, 0, 0);
    server.set(0, TOUCH, 1);
    server.tick(1);
    Check.due("it stops at the nearest", 94, server.get(0, X));
    Check.due("the least of those at that distance", nearest * 8, server.global(0));
  }

  private static void aWallGoesBeforeAnEntity() {
    QuakeServer server = flyer(0, 0, -8000, 0);
    block(server, -100, 0, 5);
    server.wall(-100, -5, -95, 5);
    server.instr(0, 6, 21, 0, 0);
    server.instr(1, 0, 0, 9, 1);
    server.set(0, TOUCH, 1);
    server.set(1, TOUCH, 2);
    server.tick(1);
    Check.due("it stops there", -94, server.get(0, X));
    Check.due("the world is the other", -8, server.global(0));
    Check.due("the entity at that distance is not hit", 0, server.global(1));
    Check.due("one hit", 1, server.count(6));
  }

  private static void onlySolidTwoBlocks() {
    double[][] solids = {{0, 0}, {1, 0}, {1.875, 0}, {2, 1}, {2.875, 1}, {3, 0}, {-2, 0}};
    for (double[] solid : solids) {
      QuakeServer server = flyer(0, 0, 800, 0);
      block(server, 50, 0, 5);
      server.set(1, SOLID, solid[0]);
      server.tick(1);
      Check.due("hits with SOLID " + solid[0], solid[1], server.count(6));
      Check.due("place", solid[1] == 1 ? 44 : 100, server.get(0, X));
    }
    QuakeServer server = flyer(0, 0, 800, 0);
    server.set(0, SOLID, 2);
    server.tick(1);
    Check.due("it does not block itself", 100, server.get(0, X));
    server = flyer(0, 0, 800, 0);
    block(server, 50, 0, 5);
    server.remove(1);
    server.tick(1);
    Check.due("nor does one that is gone", 100, server.get(0, X));
  }

  private static void owners() {
    double[][] owners = {
      // OWNER of the mover 0, OWNER of the blocker 1, and whether it blocks
      {0, 0, 1}, {0.875, 0, 1}, {2, 0, 0}, {2.875, 0, 0}, {1, 0, 1}, {3, 0, 1}, {-1, 0, 1}, {1.875, 0, 1},
      {0, 1, 0}, {0, 1.875, 0}, {0, 0.875, 1}, {0, 2, 1}, {0, -1, 1}, {2, 1, 0}
    };
    for (double[] owner : owners) {
      QuakeServer server = flyer(0, 0, 800, 0);
      block(server, 50, 0, 5);
      server.set(0, OWNER, owner[0]);
      server.set(1, OWNER, owner[1]);
      server.tick(1);
      Check.due("hits with the owners " + owner[0] + ", " + owner[1], owner[2], server.count(6));
    }
    QuakeServer server = new QuakeServer();
    block(server, 50, 0, 5);
    server.spawn(0, 0, 1);
    server.set(1, MOVE, 1);
    server.set(1, VX, 800);
    server.tick(1);
    Check.due("entity 0 is not the owner of one with OWNER 0", 1, server.count(6));
  }

  private static void velocitiesBehindAHit() {
    double[][] hits = {
      // MOVE, VX, VX behind the hit
      {1, 800, 0}, {2, 800, 0}, {3, 800, -400}, {3.5, 801.125, -400.625}, {3, 800.125, -400.125},
      {3, -800.125, 400}, {3, -800, 400}, {3, 16384, -8192}, {3, -16384, 8192}
    };
    for (double[] hit : hits) {
      QuakeServer server = flyer(0, 0, hit[1], 0);
      server.set(0, MOVE, hit[0]);
      server.wall(50, -5, 51, 5);
      server.wall(-51, -5, -50, 5);
      server.tick(1);
      Check.due("VX behind a hit at " + hit[1], hit[2], server.get(0, VX));
      Check.due("VY", hit[0] == 1 ? 0 : -8, server.get(0, VY));
    }
    QuakeServer server = flyer(0, 10, 16, -792);
    server.set(0, MOVE, 3);
    server.wall(-100, -10, 100, 0);
    server.tick(1);
    Check.due("on the ground", 1, server.get(0, Y));
    Check.due("VY goes up again", 400, server.get(0, VY));
    Check.due("VX stays", 16, server.get(0, VX));
    Check.due("X goes on", 2, server.get(0, X));
  }

  private static void touchesOfAHit() {
    QuakeServer server = flyer(0, 0, 800, 0);
    block(server, 50, 0, 5);
    // Function 1 writes who was self and other first, function 2 who were so then.
    server.instr(1, 6, 20, 0, 0);
    server.instr(1, 6, 21, 0, 1);
    server.instr(1, 7, 20, VX, 4);
    server.instr(1, 7, 20, X, 5);
    server.instr(2, 6, 20, 0, 2);
    server.instr(2, 6, 21, 0, 3);
    server.instr(2, 6, 0, 0, 6);
    server.set(0, TOUCH, 2.875);
    server.set(1, TOUCH, 3);
    server.setGlobal(4, 99);
    server.setGlobal(6, 99);
    server.tick(1);
    Check.due("first self: the mover", 0, server.global(0));
    Check.due("first other: who was hit", 8, server.global(1));
    Check.due("the velocity is 0 by then", 0, server.global(4));
    Check.due("it stands at its new place by then", 44 * 8, server.global(5));
    Check.due("then self: who was hit", 8, server.global(2));
    Check.due("then other: the mover", 0, server.global(3));
    Check.due("the mover's run comes first", 0, server.global(6));
    Check.due("two runs", 2, server.count(5));
    Check.due("one hit", 1, server.count(6));
    QuakeServer none = flyer(0, 0, 800, 0);
    block(none, 50, 0, 5);
    none.instr(5, 0, 0, 9, 0);
    for (double touch : new double[] {0, 0.875, -1, 7, 16384, -16384}) {
      none.set(0, X, 0);
      none.set(0, VX, 800);
      none.set(0, TOUCH, touch);
      none.set(1, TOUCH, touch);
      none.setGlobal(22, 99);
      none.tick(1);
      Check.due("no run with TOUCH " + touch, 0, none.count(5));
      Check.due("global 22 stays", 99, none.global(22));
    }
    Check.due("they hit all the same", 6, none.count(6));
  }

  private static void goneOnTheWay() {
    // Function 0 removes self, 1 removes other, 2 counts in global 5.
    QuakeServer server = flyer(0, 0, 800, 800);
    goneProgram(server);
    server.wall(50, -5, 51, 5);
    server.set(0, TOUCH, 1);
    Check.due("the mover is gone", 0, server.tick(1));
    Check.due("one hit", 1, server.count(6));

    server = flyer(0, 0, 800, 0);
    goneProgram(server);
    block(server, 50, 0, 5);
    server.set(0, TOUCH, 1);
    server.set(1, TOUCH, 3);
    Check.due("the mover is gone", 1, server.tick(1));
    Check.due("so who was hit has no run", 0, server.global(5));

    server = flyer(0, 0, 800, 0);
    goneProgram(server);
    block(server, 50, 0, 5);
    server.set(0, TOUCH, 2);
    server.set(1, TOUCH, 3);
    Check.due("who was hit is gone", 1, server.tick(1));
    Check.due("and has no run", 0, server.global(5));
    Check.due("the mover stands where it hit", 44, server.get(0, X));

    server = flyer(0, 0, 800, 800);
    goneProgram(server);
    block(server, 50, 0, 5);
    server.set(1, TOUCH, 2);
    Check.due("the mover is gone by the other's run", 1, server.tick(1));
  }

  private static void goneProgram(QuakeServer server) {
    server.instr(0, 13, 20, 0, 0);
    server.instr(1, 13, 21, 0, 0);
    server.instr(2, 0, 0, 8, 6);
    server.instr(2, 1, 5, 6, 5);
  }
}
