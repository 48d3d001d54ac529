/** The names of the fields, and small worlds that more than one test begins with. */
final class Scene {
  static final int X = 0;
  static final int Y = 1;
  static final int VX = 2;
  static final int VY = 3;
  static final int SIZE = 4;
  static final int SOLID = 5;
  static final int MOVE = 6;
  static final int HEALTH = 7;
  static final int TOUCH = 8;
  static final int THINK = 9;
  static final int NEXT = 10;
  static final int OWNER = 11;

  private Scene() {}

  /** A server with entity 0 at (x, y), of size 1, that flies. */
  static QuakeServer flyer(double x, double y, double vx, double vy) {
    QuakeServer server = new QuakeServer();
    fly(server, server.spawn(x, y, 1), vx, vy);
    return server;
  }

  static void fly(QuakeServer server, int entity, double vx, double vy) {
    server.set(entity, MOVE, 1);
    server.set(entity, VX, vx);
    server.set(entity, VY, vy);
  }

  /** One that others can't go through. */
  static int block(QuakeServer server, double x, double y, double size) {
    int block = server.spawn(x, y, size);
    server.set(block, SOLID, 2);
    return block;
  }

  /** One whose function touch - 1 runs when others come into its box. */
  static int trigger(QuakeServer server, double x, double y, double size, double touch) {
    int trigger = server.spawn(x, y, size);
    server.set(trigger, SOLID, 1);
    server.set(trigger, TOUCH, touch);
    return trigger;
  }

  /** A server with so many entities. */
  static QuakeServer crowd(int entities) {
    QuakeServer server = new QuakeServer();
    for (int made = 0; made < entities; made++) {
      server.spawn(0, 0, 0);
    }
    return server;
  }

  /** The function notes self in global 0, other in 1, the time in 2, and counts its runs in 3. */
  static void noting(QuakeServer server, int function) {
    server.instr(function, 6, 20, 0, 0);
    server.instr(function, 6, 21, 0, 1);
    server.instr(function, 6, 22, 0, 2);
    server.instr(function, 0, 0, 8, 4);
    server.instr(function, 1, 3, 4, 3);
  }

  /** The run is of one instruction: what it makes of global 2 with a and b in globals 0 and 1. */
  static int op(int op, int a, int b) {
    QuakeServer server = new QuakeServer();
    server.setGlobal(0, a);
    server.setGlobal(1, b);
    server.setGlobal(2, 55);
    server.instr(0, op, 0, 1, 2);
    Check.due("one instruction", 1, server.run(0, 0, 0));
    Check.due("a stays", a, server.global(0));
    Check.due("b stays", b, server.global(1));
    return server.global(2);
  }
}
