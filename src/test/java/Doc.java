import java.io.IOException;
import java.nio.file.Files;
import java.nio.file.Path;
import java.util.ArrayList;
import java.util.List;
import java.util.Map;
import java.util.TreeMap;

/** The document: tests quote the sentences that they hold to, and none may be left out. */
final class Doc {
  static final String FIRST =
      "If several exceptions apply, the one that is documented first is thrown.";
  static final String NO_ROLL = "Throws `IndexOutOfBoundsException` if there is no such roll";
  static final String NO_NOTE = "Throws `IndexOutOfBoundsException` if there is no such note";
  static final String NOT_PLAYED = "Throws `IllegalStateException` if no roll is played";
  static final String NOTE = "- `note`: the note, 0 to 11";

  private static final Path FILE = Path.of("../shared/DOC.md");
  private static final int PROMISES = 38;
  private static final Map<Integer, List<String>> QUOTED = new TreeMap<>();
  private static final String TERMS;
  private static final Map<Integer, List<String>> LINES = new TreeMap<>();
  private static final boolean[] MARKED;

  static {
    StringBuilder terms = new StringBuilder();
    boolean isTerms = false;
    int promise = 0;
    for (String line : read()) {
      if (line.startsWith("## ")) {
        isTerms = line.equals("## Terms");
        boolean isPromise = line.startsWith("## Promise ");
        promise = isPromise ? Integer.parseInt(line.substring(11, line.indexOf(':'))) : 0;
      } else if (isTerms) {
        terms.append(line).append(' ');
      } else if (promise > 0 && !line.isBlank()) {
        LINES.computeIfAbsent(promise, p -> new ArrayList<>()).add(line.strip());
      }
    }
    TERMS = terms.toString().replaceAll("\\s+", " ").strip();
    MARKED = new boolean[TERMS.length()];
  }

  private Doc() {}

  private static List<String> read() {
    try {
      return Files.readAllLines(FILE);
    } catch (IOException e) {
      throw new IllegalStateException("no document", e);
    }
  }

  /** A quote from the document's Terms. */
  static void says(String quote) {
    int at = TERMS.indexOf(quote);
    Check.is("the Terms say: " + quote, at >= 0, true);
    while (at >= 0) {
      for (int i = at; i < at + quote.length(); i++) {
        MARKED[i] = true;
      }
      at = TERMS.indexOf(quote, at + 1);
    }
  }

  /** A line of a promise, whole. */
  static void says(int promise, String line) {
    List<String> lines = LINES.getOrDefault(promise, List.of());
    Check.is("promise " + promise + " says: " + line, lines.contains(line), true);
    QUOTED.computeIfAbsent(promise, p -> new ArrayList<>()).add(line);
  }

  /** All of the Terms, and of each promise the exceptions and the numbers, are quoted by a test. */
  static void isQuotedWhole() {
    StringBuilder left = new StringBuilder();
    for (int i = 0; i < TERMS.length(); i++) {
      boolean isWord = Character.isLetterOrDigit(TERMS.charAt(i));
      left.append(isWord && MARKED[i] ? ' ' : TERMS.charAt(i));
    }
    Check.is("Terms without a test", left.toString().replaceAll("[^\\w]+", " ").strip(), "");
    Check.is("promises", LINES.size(), PROMISES);
    for (Map.Entry<Integer, List<String>> promise : LINES.entrySet()) {
      List<String> quotes = QUOTED.getOrDefault(promise.getKey(), List.of());
      for (String line : promise.getValue()) {
        boolean isDue = line.startsWith("Throws ") || line.matches("- .*[0-9].*");
        Check.is("a test of promise " + promise.getKey() + ": " + line,
            !isDue || quotes.contains(line), true);
      }
    }
  }
}
