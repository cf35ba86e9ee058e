import java.io.IOException;
import java.nio.charset.StandardCharsets;
import java.nio.file.Files;
import java.nio.file.Path;
import java.util.ArrayList;
import java.util.HashMap;
import java.util.HashSet;
import java.util.List;
import java.util.Map;
import java.util.Set;

/**
 * The sentences of the document that name a boundary case, each with the runs of calls that would not answer as is
 * due if it did not hold. At the end the document itself is read: each sentence told here stands in it, and each one
 * of it that says when a call throws, tells a range or allows the same twice, is told here.
 */
final class Edges {
  /** The promise number under which the sentences of "What it is" and of "Terms" are told. */
  static final int TERMS = 0;
  private static final String DOCUMENT = "../shared/DOC.md";
  private static final Set<String> TOLD = new HashSet<>();
  private static final Set<Integer> ORDERED = new HashSet<>();

  private Edges() {}

  static void sentence(int promise, String text, String... script) {
    TOLD.add(promise + " " + text);
    Script.run(promise + ", " + text, script);
  }

  /** Runs in which several conditions of a method apply. */
  static void order(int promise, String... script) {
    ORDERED.add(promise);
    Script.run(promise + ", the first exception of several", script);
  }

  static void heldAgainstTheDocument() throws IOException {
    Map<Integer, List<String>> document = read();
    for (String told : TOLD) {
      int promise = Integer.parseInt(told.substring(0, told.indexOf(' ')));
      String text = told.substring(told.indexOf(' ') + 1);
      boolean stands = String.join("\n", document.getOrDefault(promise, List.of())).contains(text);
      Check.due("the document says under " + promise + ": " + text, () -> stands, true);
    }
    document.forEach(Edges::toldHere);
  }

  private static void toldHere(int promise, List<String> lines) {
    int refusals = 0;
    for (String line : promise == TERMS ? List.<String>of() : lines) {
      boolean refuses = line.startsWith("Throws ");
      boolean ranges = line.startsWith("- `") && line.matches(".*(\\d.*|a, b or c|or the same)");
      refusals += refuses ? 1 : 0;
      if (refuses || ranges) {
        Check.due("told here of promise " + promise + ": " + line, () -> TOLD.contains(promise + " " + line), true);
      }
    }
    if (refusals > 1) {
      Check.due("the order of the exceptions of promise " + promise, () -> ORDERED.contains(promise), true);
    }
  }

  private static Map<Integer, List<String>> read() throws IOException {
    Map<Integer, List<String>> document = new HashMap<>();
    int promise = TERMS;
    for (String line : Files.readAllLines(Path.of(DOCUMENT), StandardCharsets.UTF_8)) {
      if (line.startsWith("## Promise ")) {
        promise = Integer.parseInt(line.substring("## Promise ".length(), line.indexOf(':')));
      } else if (line.startsWith("## ")) {
        promise = TERMS;
      }
      document.computeIfAbsent(promise, any -> new ArrayList<>()).add(line);
    }
    Check.due("promises of the document", () -> document.size() - 1, 53);
    return document;
  }
}
