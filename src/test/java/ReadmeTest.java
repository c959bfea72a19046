import java.io.ByteArrayOutputStream;
import java.io.IOException;
import java.io.PrintStream;
import java.lang.reflect.Method;
import java.lang.reflect.Modifier;
import java.net.URL;
import java.net.URLClassLoader;
import java.nio.charset.StandardCharsets;
import java.nio.file.Files;
import java.nio.file.Path;
import java.util.ArrayList;
import java.util.List;
import java.util.stream.Stream;
import javax.tools.JavaCompiler;
import javax.tools.ToolProvider;

/** README.md, read from the working directory: its example answers as it says. */
final class ReadmeTest {
  private static final String PRINT = "System.out.println(";

  private ReadmeTest() {}

  public static void main(String[] args) throws Exception {
    List<String> lines = Files.readAllLines(Path.of("README.md"), StandardCharsets.UTF_8);
    everyCallHasItsRow(lines);
    exampleAnswersAsItSays(example(lines));
    Check.end();
  }

  private static void everyCallHasItsRow(List<String> lines) {
    Check.due("row of PoolDice()", hasRow(lines, "PoolDice()"), true);
    for (Method method : PoolDice.class.getDeclaredMethods()) {
      if (Modifier.isPublic(method.getModifiers())) {
        String start = method.getReturnType() + " " + method.getName() + "(";
        Check.due("row of " + method.getName(), hasRow(lines, start), true);
      }
    }
  }

  private static boolean hasRow(List<String> lines, String start) {
    return lines.stream().anyMatch(line -> line.startsWith("| `" + start));
  }

  /** The lines of the one block of Java. */
  private static List<String> example(List<String> lines) {
    int from = lines.indexOf("```java") + 1;
    List<String> rest = lines.subList(from, lines.size());
    return rest.subList(0, rest.indexOf("```"));
  }

  private static void exampleAnswersAsItSays(List<String> example) throws Exception {
    List<String> printed = run(example);
    List<String> calls = example.stream().filter(line -> line.startsWith(PRINT)).toList();
    Check.due("lines that the example prints", printed.size(), calls.size());
    Check.due("the example prints some", calls.isEmpty(), false);
    for (int i = 0; i < Math.min(printed.size(), calls.size()); i++) {
      String said = answerSaid(calls.get(i));
      String what = calls.get(i) + " -- printed " + printed.get(i);
      Check.due(what, printed.get(i).equals(said), true);
    }
  }

  private static String answerSaid(String line) {
    String comment = line.substring(line.indexOf("//") + 2);
    return comment.substring(0, comment.indexOf(':')).trim();
  }

  private static List<String> run(List<String> example) throws Exception {
    Path work = Files.createTempDirectory("readme");
    try {
      return runIn(work, example);
    } finally {
      remove(work);
    }
  }

  private static List<String> runIn(Path work, List<String> example) throws Exception {
    List<String> source = new ArrayList<>();
    source.add("public final class Example { public static void main(String[] args) {");
    source.addAll(example);
    source.add("} }");
    Path file = Files.write(work.resolve("Example.java"), source);
    JavaCompiler compiler = ToolProvider.getSystemJavaCompiler();
    String classes = System.getProperty("java.class.path");
    int code = compiler.run(
        null, null, null, "--release", "17", "-cp", classes, "-d", work.toString(),
        file.toString());
    Check.due("exit code of the example's compiler", code, 0);
    return code == 0 ? linesPrinted(work) : List.of();
  }

  private static List<String> linesPrinted(Path classes) throws Exception {
    ByteArrayOutputStream printed = new ByteArrayOutputStream();
    PrintStream before = System.out;
    System.setOut(new PrintStream(printed, true, StandardCharsets.UTF_8));
    try (URLClassLoader loader = new URLClassLoader(new URL[] {classes.toUri().toURL()})) {
      Method main = loader.loadClass("Example").getMethod("main", String[].class);
      main.invoke(null, (Object) new String[0]);
    } finally {
      System.setOut(before);
    }
    return printed.toString(StandardCharsets.UTF_8).lines().toList();
  }

  private static void remove(Path folder) throws IOException {
    try (Stream<Path> files = Files.list(folder)) {
      for (Path file : files.toList()) {
        Files.delete(file);
      }
    }
    Files.delete(folder);
  }
}
