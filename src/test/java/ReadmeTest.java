import java.io.ByteArrayOutputStream;
import java.io.IOException;
import java.io.PrintStream;
import java.net.URL;
import java.net.URLClassLoader;
import java.nio.charset.StandardCharsets;
import java.nio.file.Files;
import java.nio.file.Path;
import java.util.List;
import java.util.Set;
import java.util.TreeSet;
import java.util.regex.MatchResult;
import java.util.regex.Pattern;
import java.util.stream.Collectors;
import java.util.stream.Stream;
import javax.tools.ToolProvider;

/** What README.md says: its calls are run for the answers that it tells, and its list of tests is whole. */
public final class ReadmeTest {
  private static final Pattern CALL =
      Pattern.compile("(?m)^(reader\\.(\\w+)\\(.*\\));\\s+// (-?\\d+|true|false)(:.*)?$");
  private static final Set<String> CALLS = Set.of("feed", "end", "install", "open", "come", "look", "held", "left",
      "length", "at", "damage");

  public static void main(String[] args) throws Exception {
    String readme = Files.readString(Path.of("README.md"));
    example(readme);
    table(readme);
    listOfTests(readme);
    Bench.finish();
  }

  private static void example(String readme) throws Exception {
    String calls = blocks(readme, "java");
    List<MatchResult> told = CALL.matcher(calls).results().toList();
    Bench.due("kinds of calls in README.md", told.stream().map(call -> call.group(2)).collect(Collectors.toSet()),
        CALLS);
    Bench.due("calls in README.md that tell their answer", (long) told.size(),
        Pattern.compile("(?m)^reader\\.").matcher(calls).results().count());

    ByteArrayOutputStream printed = new ByteArrayOutputStream();
    List<?> answers = run(CALL.matcher(calls).replaceAll("answers.add($1);"), printed);
    for (int i = 0; i < answers.size(); i++) {
      Bench.due("call " + (i + 1) + " of README.md, " + told.get(i).group(1), String.valueOf(answers.get(i)),
          told.get(i).group(3));
    }
    // The text in README.md ends with a line end that the answer has not.
    Bench.due("what README.md prints",
        printed.toString(StandardCharsets.ISO_8859_1).replace("\r\n", "\n") + "\n", blocks(readme, "text"));
  }

  private static String blocks(String readme, String kind) {
    return Pattern.compile("(?ms)^```" + kind + "\\n(.*?)^```$").matcher(readme).results()
        .map(block -> block.group(1)).collect(Collectors.joining());
  }

  private static List<?> run(String calls, ByteArrayOutputStream printed) throws Exception {
    Path room = Files.createTempDirectory("readme");
    Path source = room.resolve("ReadmeExample.java");
    Files.writeString(source, "public final class ReadmeExample { public static java.util.List<Object> run() {\n"
        + "java.util.List<Object> answers = new java.util.ArrayList<>();\n" + calls + "return answers; } }\n");
    PrintStream screen = System.out;
    try (URLClassLoader loader = new URLClassLoader(new URL[] {room.toUri().toURL()})) {
      int failed = ToolProvider.getSystemJavaCompiler().run(null, null, null, "-d", room.toString(),
          "-cp", System.getProperty("java.class.path"), source.toString());
      Bench.due("compiling the calls of README.md", failed, 0);
      System.setOut(new PrintStream(printed, true, StandardCharsets.ISO_8859_1));
      return failed != 0 ? List.of() : (List<?>) loader.loadClass("ReadmeExample").getMethod("run").invoke(null);
    } finally {
      System.setOut(screen);
      empty(room);
    }
  }

  private static void empty(Path room) throws IOException {
    try (Stream<Path> files = Files.list(room)) {
      for (Path file : files.toList()) {
        Files.delete(file);
      }
    }
    Files.delete(room);
  }

  private static void table(String readme) {
    for (String call : CALLS) {
      Bench.due("README.md has a row for " + call, readme.contains("\n| `" + call + "("), true);
    }
  }

  private static void listOfTests(String readme) throws IOException {
    Set<String> listed = Pattern.compile("(?m)^\\| (\\w+Test) \\|").matcher(readme).results()
        .map(row -> row.group(1)).collect(Collectors.toCollection(TreeSet::new));
    try (Stream<Path> files = Files.list(Path.of("src/test/java"))) {
      Set<String> there = files.map(file -> file.getFileName().toString())
          .filter(name -> name.endsWith("Test.java")).map(name -> name.replace(".java", ""))
          .collect(Collectors.toCollection(TreeSet::new));
      Bench.due("the tests that README.md lists", listed, there);
    }
  }
}
