import java.io.ByteArrayOutputStream;
import java.io.IOException;
import java.io.PrintStream;
import java.lang.reflect.Method;
import java.lang.reflect.Modifier;
import java.net.URL;
import java.net.URLClassLoader;
import java.nio.charset.StandardCharsets;
import java.nio.file.Files;
import java.nio.file.Path;
import java.util.ArrayList;
import java.util.List;
import javax.tools.JavaCompiler;
import javax.tools.ToolProvider;

/** README.md: its program prints what it says, and its table names every call and every test. */
public final class ReadmeTest {
  private static final String PROGRAM = "Tour";

  public static void main(String[] args) throws Exception {
    List<String> lines = Files.readAllLines(Path.of("README.md"));
    programPrintsWhatItSays(lines);
    everyCallIsNamed(lines);
    everyTestIsNamed(lines);
    Check.end("ReadmeTest");
  }

  /** The lines of the only block that is fenced as this kind. */
  private static List<String> block(List<String> lines, String kind) {
    int start = lines.indexOf("```" + kind);
    Check.is("a block of " + kind, start >= 0, true);
    Check.is("one block of " + kind, lines.lastIndexOf("```" + kind), start);
    List<String> block = new ArrayList<>();
    for (int i = start + 1; i < lines.size() && !lines.get(i).equals("```"); i++) {
      block.add(lines.get(i));
    }
    return block;
  }

  private static void programPrintsWhatItSays(List<String> lines) throws Exception {
    Path place = Files.createTempDirectory("readme");
    try {
      Path source = place.resolve(PROGRAM + ".java");
      Files.write(source, block(lines, "java"));
      JavaCompiler compiler = ToolProvider.getSystemJavaCompiler();
      Check.is("a compiler stands with java", compiler != null, true);
      if (compiler != null) {
        String classes = System.getProperty("java.class.path");
        int end = compiler.run(null, null, null, "-Xlint:all", "-cp", classes,
            "-d", place.toString(), source.toString());
        Check.is("compiling " + PROGRAM, end, 0);
        Check.is(PROGRAM, end == 0 ? printOf(place) : "", block(lines, "text"));
      }
    } finally {
      remove(place);
    }
  }

  /** The lines that the program's main method prints. */
  private static List<String> printOf(Path place) throws Exception {
    PrintStream console = System.out;
    ByteArrayOutputStream printed = new ByteArrayOutputStream();
    try (URLClassLoader loader = new URLClassLoader(new URL[] {place.toUri().toURL()})) {
      Method main = loader.loadClass(PROGRAM).getMethod("main", String[].class);
      System.setOut(new PrintStream(printed, true, StandardCharsets.UTF_8));
      main.invoke(null, (Object) new String[0]);
    } finally {
      System.setOut(console);
    }
    return printed.toString(StandardCharsets.UTF_8).lines().toList();
  }

  private static void remove(Path place) throws IOException {
    for (Path file : list(place)) {
      Files.delete(file);
    }
    Files.delete(place);
  }

  private static List<Path> list(Path place) throws IOException {
    try (var files = Files.list(place)) {
      return files.toList();
    }
  }

  private static void everyCallIsNamed(List<String> lines) {
    List<String> rows = lines.stream().filter(line -> line.startsWith("| `")).toList();
    for (Method m : Perforatum.class.getDeclaredMethods()) {
      if (Modifier.isPublic(m.getModifiers())) {
        String name = "`" + m.getName();
        boolean isNamed = rows.stream()
            .anyMatch(row -> row.contains(name + "(") || row.contains(name + "`"));
        Check.is("README's table names " + m.getName(), isNamed, true);
      }
    }
  }

  private static void everyTestIsNamed(List<String> lines) throws IOException {
    for (Path file : list(Path.of("src/test/java"))) {
      String name = file.getFileName().toString().replace(".java", "");
      if (name.endsWith("Test")) {
        boolean isNamed = lines.stream().anyMatch(line -> line.startsWith("| `" + name + "` |"));
        Check.is("README's table names " + name, isNamed, true);
      }
    }
  }
}
