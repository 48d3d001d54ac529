import java.io.IOException;
import java.nio.file.Files;
import java.nio.file.Path;
import java.util.ArrayList;
import java.util.List;

/** The README's example: each of its calls, in its order, answers what the README tells. */
public final class ReadmeTest {
  private static final List<String> MADE = new ArrayList<>();

  private ReadmeTest() {}

  public static void main(String[] args) throws IOException {
    QuakeServer server = new QuakeServer();
    row("server.wall(100, -50, 120, 50);", server.wall(100, -50, 120, 50));
    int ball = server.spawn(0, 0, 8);
    row("int ball = server.spawn(0, 0, 8);", ball);
    row("server.set(ball, 6, 3);", server.set(ball, 6, 3));
    row("server.set(ball, 2, 320);", server.set(ball, 2, 320));
    row("server.instr(0, 0, 0, 40, 5);", server.instr(0, 0, 0, 40, 5));
    row("server.set(ball, 8, 1);", server.set(ball, 8, 1));
    row("server.tick(4);", server.tick(4));
    row("server.get(ball, 0);", server.get(ball, 0));
    row("server.global(5);", server.global(5));
    row("server.count(6);", server.count(6));
    row("server.changes();", server.changes());
    row("server.change(6);", server.change(6));
    row("server.message();", server.message());
    row("server.changes();", server.changes());
    compareWithReadme();
    Check.end();
  }

  private static void row(String call, int answer) {
    MADE.add(call + " // " + answer);
  }

  private static void row(String call, double answer) {
    MADE.add(call + " // " + answer);
  }

  private static void compareWithReadme() throws IOException {
    List<String> told = new ArrayList<>();
    for (String line : Files.readAllLines(Path.of("README.md"))) {
      if (line.startsWith("server.") || line.startsWith("int ball = server.")) {
        told.add(line.replaceAll(" +// ", " // ").replaceAll("( // [-0-9.]+).*", "$1"));
      }
    }
    if (!told.equals(MADE)) {
      Check.fail("README.md tells " + told + ", the class answers " + MADE);
    }
  }
}
