import java.io.IOException;
import java.nio.file.Files;
import java.nio.file.Path;
import java.util.ArrayList;
import java.util.List;

/** The example of README.md: it does what is said there, and the lines here are the lines there. */
public final class ReadmeTest {
  private static final Path README = Path.of("README.md");
  private static final Path HERE = Path.of("src/test/java/ReadmeTest.java");

  private static final Check check = new Check("ReadmeTest");

  public static void main(String[] args) throws IOException {
    example();
    sameLines();
    check.end();
  }

  private static void example() {
    ValueStream x = new ValueStream();
    int base = x.type(34, -1);
    x.field(base, 2);
    x.field(base, 4);
    int type = x.type(3205, base);
    x.field(type, 0);

    int node = x.node(type);
    x.set(node, 0, -5);
    x.set(node, 1, node);
    x.set(node, 2, 44);

    int bytes = x.write(node, 0, true, true);
    x.known(type, false);
    int copy = x.read();
    long number = x.get(copy, 0);

    check.same("bytes", bytes, x.size());
    check.same("the copy's type", x.get(copy, -1), base);
    check.same("the copy's number", number, -5);
    check.same("the copy's reference", x.get(copy, 1), copy);
  }

  /** An example that is changed in one place alone would be run no more. */
  private static void sameLines() throws IOException {
    List<String> example = new ArrayList<>();
    boolean inside = false;
    for (String line : Files.readAllLines(README)) {
      if (line.startsWith("```")) {
        inside = line.equals("```java");
      } else if (inside) {
        example.add(line.replaceFirst("//.*", "").trim());
      }
    }
    List<String> run = Files.readAllLines(HERE).stream().map(String::trim).toList();
    check.holds("README.md has an example", !example.isEmpty());
    check.holds("it is the one that is run",
        String.join("\n", run).contains(String.join("\n", example)));
  }
}
