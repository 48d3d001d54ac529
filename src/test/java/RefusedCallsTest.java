import java.util.ArrayList;
import java.util.List;
import java.util.NoSuchElementException;

/**
 * A call that throws changes nothing: of two servers that are made alike, one gets a call that is
 * refused, and then both must answer alike whatever they are asked.
 */
public final class RefusedCallsTest {
  private interface Refused {
    double on(QuakeServer server);
  }

  private interface Maker {
    QuakeServer make();
  }

  private static final Class<?> ARGUMENT = IllegalArgumentException.class;
  private static final Class<?> STATE = IllegalStateException.class;
  private static final Class<?> MISSING = NoSuchElementException.class;

  public static void main(String[] args) {
    Check.sentence("a call that throws changes nothing.");
    wrongArguments("an empty server", QuakeServer::new);
    wrongArguments("a busy server", RefusedCallsTest::busy);
    wrongArguments("a full server", RefusedCallsTest::full);
    refused("a full server", RefusedCallsTest::full, STATE, s -> s.wall(0, 0, 1, 1));
    refused("a full server", RefusedCallsTest::full, STATE, s -> s.spawn(3, 4, 5));
    for (int f = 0; f < 6; f++) {
      int function = f;
      refused("a full server", RefusedCallsTest::full, STATE, s -> s.instr(function, 16, 0, 0, 0));
    }
    nobodyThere("an empty server", QuakeServer::new, 0, 5, 11);
    nobodyThere("a busy server", RefusedCallsTest::busy, 2, 6, 11);
    Check.end();
  }

  private static void wrongArguments(String which, Maker maker) {
    refused(which, maker, ARGUMENT, s -> s.wall(-1025, 0, 1, 1));
    refused(which, maker, ARGUMENT, s -> s.wall(0, 0, 1, 1025));
    refused(which, maker, ARGUMENT, s -> s.wall(1, 0, 1, 1));
    refused(which, maker, ARGUMENT, s -> s.wall(0, 1, 1, 1));
    refused(which, maker, ARGUMENT, s -> s.instr(6, 16, 0, 0, 0));
    refused(which, maker, ARGUMENT, s -> s.instr(0, 17, 0, 0, 0));
    refused(which, maker, ARGUMENT, s -> s.instr(0, 1, 24, 0, 0));
    refused(which, maker, ARGUMENT, s -> s.instr(0, 1, 0, 24, 0));
    refused(which, maker, ARGUMENT, s -> s.instr(0, 1, 0, 0, 24));
    refused(which, maker, ARGUMENT, s -> s.instr(0, 7, 0, 16, 0));
    refused(which, maker, ARGUMENT, s -> s.instr(0, 10, 0, 14, 0));
    refused(which, maker, ARGUMENT, s -> s.instr(0, 11, 6, 0, 0));
    refused(which, maker, ARGUMENT, s -> s.instr(0, 0, 0, 16001, 0));
    refused(which, maker, ARGUMENT, s -> s.spawn(16384.125, 0, 0));
    refused(which, maker, ARGUMENT, s -> s.spawn(0, -16384.125, 0));
    refused(which, maker, ARGUMENT, s -> s.spawn(0, 0, 16384.125));
    refused(which, maker, ARGUMENT, s -> s.setGlobal(24, 0));
    refused(which, maker, ARGUMENT, s -> s.setGlobal(0, 131073));
    refused(which, maker, ARGUMENT, s -> s.global(-1));
    refused(which, maker, ARGUMENT, s -> s.run(6, 0, 0));
    refused(which, maker, ARGUMENT, s -> s.run(0, 12, 0));
    refused(which, maker, ARGUMENT, s -> s.run(0, 0, -2));
    refused(which, maker, ARGUMENT, s -> s.tick(0));
    refused(which, maker, ARGUMENT, s -> s.tick(5));
    refused(which, maker, ARGUMENT, s -> s.count(7));
    refused(which, maker, MISSING, s -> s.change(-1));
    refused(which, maker, MISSING, s -> s.change(108));
    refused(which, maker, MISSING, s -> s.remove(12));
    if (maker.make().count(0) > 0) {
      refused(which, maker, ARGUMENT, s -> s.set(0, 16, 0));
      refused(which, maker, ARGUMENT, s -> s.set(0, 0, -16384.125));
      refused(which, maker, ARGUMENT, s -> s.get(0, -1));
    }
  }

  private static void nobodyThere(String which, Maker maker, int... entities) {
    for (int entity : entities) {
      refused(which, maker, MISSING, s -> s.remove(entity));
      refused(which, maker, MISSING, s -> s.set(entity, 0, 9));
      refused(which, maker, MISSING, s -> s.set(entity, 16, 9));
      refused(which, maker, MISSING, s -> s.get(entity, 0));
    }
  }

  private static void refused(String which, Maker maker, Class<?> due, Refused call) {
    QuakeServer asked = maker.make();
    Object thrown = null;
    try {
      call.on(asked);
    } catch (RuntimeException e) {
      thrown = e.getClass();
    }
    if (thrown != due) {
      Check.fail("on " + which + " a call threw " + thrown + ", due is " + due);
    }
    List<String> got = answers(asked);
    List<String> want = answers(maker.make());
    for (int i = 0; i < want.size(); i++) {
      if (!got.get(i).equals(want.get(i))) {
        Check.fail("on " + which + ", behind a refused call: " + got.get(i) + ", due is " + want.get(i));
      }
    }
  }

  /** Three entities of which one is gone, two walls, a program, and some changes. */
  private static QuakeServer busy() {
    QuakeServer server = new QuakeServer();
    server.wall(50, -50, 60, 50);
    server.wall(-60, -50, -50, 50);
    program(server, 3);
    for (int entity = 0; entity < 3; entity++) {
      thing(server, server.spawn(entity * 9, 3, 2));
    }
    server.remove(2);
    server.message();
    server.tick(3);
    return server;
  }

  /** All walls, all entities and all instructions are there. */
  private static QuakeServer full() {
    QuakeServer server = new QuakeServer();
    for (int wall = 0; wall < 6; wall++) {
      server.wall(50 + wall, -50, 60, 50);
    }
    program(server, 14);
    for (int entity = 0; entity < 12; entity++) {
      server.spawn(entity * 9 - 40, entity, 2);
    }
    thing(server, 3);
    server.tick(3);
    return server;
  }

  private static void program(QuakeServer server, int length) {
    for (int function = 0; function < 6; function++) {
      for (int place = 0; place < length; place++) {
        server.instr(function, place % 2 == 0 ? 15 : 1, place, function, function + place);
      }
    }
  }

  private static void thing(QuakeServer server, int entity) {
    server.set(entity, Scene.MOVE, 3);
    server.set(entity, Scene.VX, 160);
    server.set(entity, Scene.SOLID, 2);
    server.set(entity, Scene.TOUCH, 1);
  }

  /** All that can be asked, and what a wall, an instruction and a tick more lead to. */
  private static List<String> answers(QuakeServer server) {
    List<String> answers = new ArrayList<>();
    countsAndGlobals(answers, server);
    answer(answers, "changes", server::changes);
    for (int i = 0; i < 109; i++) {
      int index = i;
      answer(answers, "change " + index, () -> server.change(index));
    }
    for (int f = 0; f < 6; f++) {
      int function = f;
      answer(answers, "run " + function, () -> server.run(function, 0, 1));
      answer(answers, "instr " + function, () -> server.instr(function, 16, 0, 0, 0));
    }
    answer(answers, "tick", () -> server.tick(4));
    answer(answers, "wall", () -> server.wall(5, 5, 6, 6));
    answer(answers, "spawn", () -> server.spawn(1, 2, 3));
    answer(answers, "tick again", () -> server.tick(4));
    countsAndGlobals(answers, server);
    for (int i = 0; i < 12 * 16; i++) {
      int entity = i / 16;
      int field = i % 16;
      answer(answers, "field " + field + " of " + entity, () -> server.get(entity, field));
    }
    return answers;
  }

  private static void countsAndGlobals(List<String> answers, QuakeServer server) {
    for (int i = 0; i < 7; i++) {
      int what = i;
      answer(answers, "count " + what, () -> server.count(what));
    }
    for (int i = 0; i < 24; i++) {
      int global = i;
      answer(answers, "global " + global, () -> server.global(global));
    }
  }

  private static void answer(List<String> answers, String what, Check.Call call) {
    String told;
    try {
      told = String.valueOf(call.answer());
    } catch (RuntimeException e) {
      told = e.getClass().getSimpleName();
    }
    answers.add(what + " answered " + told);
  }
}
