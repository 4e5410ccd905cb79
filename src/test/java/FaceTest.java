import java.lang.reflect.Constructor;
import java.lang.reflect.Field;
import java.lang.reflect.Method;
import java.lang.reflect.Modifier;
import java.nio.file.Files;
import java.nio.file.Path;
import java.util.ArrayList;
import java.util.List;
import java.util.Set;
import java.util.TreeSet;
import java.util.regex.Pattern;

/** The face is the document's and nothing else, and the program keeps to LANGUAGE.md's plainest rules. */
public final class FaceTest {
  private static final String PROGRAM = "src/main/java/Perforatum.java";
  private static final String[] FORBIDDEN = {
    "->", "::", "\\btry\\b", "\\bcatch\\b", "\\bfinally\\b", "\\bsynchronized\\b", "\\bassert\\b",
    "Exact\\b", "\\bSystem\\.(?!arraycopy)", "\\bObject\\b", "\\bvar\\b", "\\bnative\\b",
    "\\bvolatile\\b", "\\btransient\\b", "^package ", "\\bprotected\\b"
  };

  public static void main(String[] args) throws Exception {
    faceIsTheDocuments();
    nothingElseIsSeen();
    namesStandApart();
    wordsAreAllowed();
    Check.end("FaceTest");
  }

  private static String join(Class<?>[] types) {
    List<String> names = new ArrayList<>();
    for (Class<?> type : types) {
      names.add(type.getSimpleName());
    }
    return String.join(", ", names);
  }

  private static String describe(String head, Class<?>[] parameters, Class<?>[] exceptions) {
    String text = "public " + head + "(" + join(parameters) + ")";
    return exceptions.length == 0 ? text : text + " throws " + join(exceptions);
  }

  private static void faceIsTheDocuments() throws Exception {
    Set<String> face = new TreeSet<>();
    for (Method m : Perforatum.class.getDeclaredMethods()) {
      if (Modifier.isPublic(m.getModifiers())) {
        String head = m.getReturnType().getSimpleName() + " " + m.getName();
        face.add(describe(head, m.getParameterTypes(), m.getExceptionTypes()));
      }
    }
    for (Constructor<?> c : Perforatum.class.getDeclaredConstructors()) {
      face.add(describe("Perforatum", c.getParameterTypes(), c.getExceptionTypes()));
    }
    Set<String> due = new TreeSet<>();
    for (String line : Files.readAllLines(Path.of("../shared/DOC.md"))) {
      if (line.startsWith("    public ") && line.endsWith(";")) {
        due.add(withoutNames(line.strip().replace(";", "")));
      }
    }
    Check.is("the face", face, due);
    Check.is("its size", due.size(), 38);
  }

  /** The line without the names of its parameters. */
  private static String withoutNames(String line) {
    int end = line.indexOf(')');
    return line.substring(0, end + 1).replaceAll(" \\w+(?=[,)])", "") + line.substring(end + 1);
  }

  private static void nothingElseIsSeen() {
    Check.is("final", Modifier.isFinal(Perforatum.class.getModifiers()), true);
    for (Field f : Perforatum.class.getDeclaredFields()) {
      Check.is("field " + f.getName(), Modifier.isPrivate(f.getModifiers()), true);
    }
    for (Method m : Perforatum.class.getDeclaredMethods()) {
      int is = m.getModifiers();
      Check.is("method " + m, Modifier.isPublic(is) || Modifier.isPrivate(is), true);
    }
    for (Class<?> c : Perforatum.class.getDeclaredClasses()) {
      Check.is("class " + c, Modifier.isStatic(c.getModifiers()), true);
      Check.is("class " + c, Modifier.isPublic(c.getModifiers()), false);
      Check.is("fields of " + c, c.getDeclaredFields().length <= 20, true);
    }
    Check.is("classes", Perforatum.class.getDeclaredClasses().length <= 12, true);
  }

  private static void namesStandApart() {
    Set<String> face = new TreeSet<>();
    for (Method m : Perforatum.class.getMethods()) {
      face.add(m.getName());
    }
    List<Method> hidden = new ArrayList<>();
    for (Class<?> c : Perforatum.class.getDeclaredClasses()) {
      hidden.addAll(List.of(c.getDeclaredMethods()));
    }
    for (Method m : Perforatum.class.getDeclaredMethods()) {
      if (Modifier.isPrivate(m.getModifiers())) {
        hidden.add(m);
      }
    }
    for (Method m : hidden) {
      Check.is("the name of " + m, face.contains(m.getName()), false);
      Check.is("parameters of " + m, m.getParameterCount() <= 7, true);
    }
  }

  private static void wordsAreAllowed() throws Exception {
    int number = 0;
    for (String line : Files.readAllLines(Path.of(PROGRAM))) {
      number++;
      String code = line.replaceAll("\"[^\"]*\"", "\"\"").replaceAll("//.*|^\\s*/?\\*.*", "");
      for (String word : FORBIDDEN) {
        boolean has = Pattern.compile(word).matcher(code).find();
        Check.is("line " + number + " has " + word, has, false);
      }
      if (code.contains("import ")) {
        Check.is("import", code, "import java.util.NoSuchElementException;");
      }
    }
  }
}
