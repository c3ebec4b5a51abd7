import java.io.ByteArrayOutputStream;
import java.io.IOException;
import java.io.PrintStream;
import java.lang.reflect.Method;
import java.lang.reflect.Modifier;
import java.net.URL;
import java.net.URLClassLoader;
import java.nio.charset.StandardCharsets;
import java.nio.file.Files;
import java.nio.file.Path;
import java.util.ArrayList;
import java.util.List;
import java.util.regex.Matcher;
import java.util.regex.Pattern;
import java.util.stream.Stream;
import javax.tools.ToolProvider;

/** README.md: its example prints what stands behind its lines; it names each call, each test and the command. */
public final class ReadmeTest {
  private static int wrong = 0;

  private static void fail(String what) {
    wrong++;
    System.out.println(what);
  }

  public static void main(String[] args) throws Exception {
    String readme = Files.readString(Path.of("README.md"), StandardCharsets.UTF_8);
    String example = example(readme);
    int lines = compare(due(example), printed(example));
    for (Method m : PerfectFerried.class.getDeclaredMethods()) {
      if (Modifier.isPublic(m.getModifiers()) && !readme.contains("`" + m.getName() + "`")) fail("README.md doesn't name the call " + m.getName());
    }
    try (Stream<Path> tests = Files.list(Path.of("src/test/java"))) {
      for (Path test : tests.toList()) {
        String name = test.getFileName().toString().replace(".java", "");
        if (!readme.contains("`" + name + "`")) fail("README.md doesn't name " + name);
      }
    }
    if (!readme.contains("`.ci/run`")) fail("README.md doesn't name the command of the tests");
    System.out.println(wrong == 0 ? "the example prints its " + lines + " lines" : wrong + " faults in README.md");
    if (wrong != 0) System.exit(1);
  }

  private static String example(String readme) {
    Matcher block = Pattern.compile("```java\n(.*?)```", Pattern.DOTALL).matcher(readme);
    if (block.find()) return block.group(1);
    fail("README.md has no example");
    return "public final class Example { public static void main(String[] args) { } }";
  }

  /** What stands behind // on each line that prints, up to its colon. */
  private static List<String> due(String example) {
    List<String> due = new ArrayList<>();
    for (String line : example.split("\n")) {
      if (!line.contains("System.out.println")) continue;
      Matcher answer = Pattern.compile("// (-?[0-9]+|true|false): ").matcher(line);
      if (answer.find()) due.add(answer.group(1));
      else fail("no answer stands behind " + line.trim());
    }
    return due;
  }

  private static List<String> printed(String example) throws Exception {
    Path folder = Files.createTempDirectory("readme");
    try {
      Path file = Files.writeString(folder.resolve("Example.java"), example, StandardCharsets.UTF_8);
      int code = ToolProvider.getSystemJavaCompiler().run(null, null, null, "-proc:none", "-d", folder.toString(),
        "-cp", System.getProperty("java.class.path"), file.toString());
      if (code != 0) {
        fail("the example doesn't compile");
        return List.of();
      }
      return run(folder);
    } finally {
      clear(folder);
    }
  }

  private static List<String> run(Path folder) throws Exception {
    PrintStream out = System.out;
    ByteArrayOutputStream bytes = new ByteArrayOutputStream();
    try (URLClassLoader loader = new URLClassLoader(new URL[] {folder.toUri().toURL()})) {
      System.setOut(new PrintStream(bytes, true, StandardCharsets.UTF_8));
      loader.loadClass("Example").getMethod("main", String[].class).invoke(null, (Object) new String[0]);
    } finally {
      System.setOut(out);
    }
    return bytes.toString(StandardCharsets.UTF_8).lines().toList();
  }

  private static void clear(Path folder) throws IOException {
    try (Stream<Path> files = Files.list(folder)) {
      for (Path file : files.toList()) Files.delete(file);
    }
    Files.delete(folder);
  }

  private static int compare(List<String> due, List<String> printed) {
    if (due.size() < 10 || due.size() != printed.size()) fail("the example prints " + printed.size() + " lines, due are " + due.size());
    for (int i = 0; i < Math.min(due.size(), printed.size()); i++) {
      if (!due.get(i).equals(printed.get(i))) fail("line " + (i + 1) + " of the example prints " + printed.get(i) + ", README.md says " + due.get(i));
    }
    return due.size();
  }
}
