import java.io.IOException;
import java.lang.reflect.Method;
import java.lang.reflect.Modifier;
import java.nio.charset.StandardCharsets;
import java.nio.file.Files;
import java.nio.file.Path;
import java.util.ArrayList;
import java.util.HashMap;
import java.util.List;
import java.util.Map;
import java.util.regex.Matcher;
import java.util.regex.Pattern;

/** README.md: each call in its examples answers what stands behind it, and each call of the face is on the page. */
public final class ReadmeTest {
  private static final Pattern CALL =
      Pattern.compile("(?:int (\\w+) = )?rose\\.(\\w+)\\((.*)\\); +// (throws )?(-?[\\w.]+).*");

  public static void main(String[] args) throws IOException {
    String page = Files.readString(Path.of("README.md"), StandardCharsets.UTF_8);
    Matcher examples = Pattern.compile("(?s)```java\n(.*?)```").matcher(page);
    while (examples.find()) {
      example(examples.group(1).split("\n"));
    }
    namesEachCall(page);
    namesEachTest(page);
    Check.end("ReadmeTest");
  }

  private static void example(String[] lines) {
    Check.due("the first line", () -> lines[0], "Foldrose rose = new Foldrose();");
    Map<String, String> numbers = new HashMap<>();
    List<String> script = new ArrayList<>();
    for (int i = 1; i < lines.length; i++) {
      Matcher line = CALL.matcher(lines[i]);
      if (line.matches()) {
        script.add(callOf(line, numbers));
      } else {
        Check.due("a call and what it answers", lines[i]::toString, "a line like int b = rose.word();  // 1");
      }
    }
    Script.run("README", script.toArray(new String[0]));
  }

  private static String callOf(Matcher line, Map<String, String> numbers) {
    StringBuilder call = new StringBuilder(line.group(2));
    for (String argument : line.group(3).isEmpty() ? new String[0] : line.group(3).split(", ")) {
      call.append(' ').append(numbers.getOrDefault(argument, argument.replace("'", "")));
    }
    if (line.group(1) != null) {
      numbers.put(line.group(1), line.group(5));
    }
    String answer = line.group(4) == null ? line.group(5) : line.group(5).replaceAll("[^A-Z]", "");
    return call.append(" = ").append(answer).toString();
  }

  private static void namesEachCall(String page) {
    for (Method method : Foldrose.class.getDeclaredMethods()) {
      if (Modifier.isPublic(method.getModifiers())) {
        Check.due("README.md tells of " + method.getName(), () -> page.contains("`" + method.getName() + "("), true);
      }
    }
  }

  private static void namesEachTest(String page) throws IOException {
    try (var files = Files.list(Path.of("src/test/java"))) {
      for (Path file : files.toList()) {
        String name = file.getFileName().toString().replace(".java", "");
        Check.due("README.md tells of " + name, () -> page.contains("`" + name + "`"), true);
      }
    }
  }
}
