import java.io.IOException;
import java.lang.reflect.Method;
import java.nio.charset.StandardCharsets;
import java.nio.file.Files;
import java.nio.file.Path;
import java.util.HashMap;
import java.util.Map;
import java.util.regex.Matcher;
import java.util.regex.Pattern;

/** The rules of the language that can be looked up in the text of the program. */
public final class RulesTest {
  private static final int DEEPEST = 8;
  private static final Pattern METHOD =
      Pattern.compile("(?m)^( {2}| {4})(?:\\w+(?:\\[\\])? )*(\\w+)\\([^;{}]*\\)[^;{}]*\\{\n((?:.*\n)*?)\\1\\}");

  public static void main(String[] args) throws IOException {
    String text = Files.readString(Path.of("src/main/java/Foldrose.java"), StandardCharsets.UTF_8);
    source(text);
    callDepth(withoutComments(text));
    Check.end("RulesTest");
  }

  private static String withoutComments(String text) {
    return text.replaceAll("(?s)/\\*.*?\\*/", "").replaceAll("//[^\n]*", "").replaceAll("\"[^\"\n]*\"", "\"\"");
  }

  /** Words and signs that the language does not have, looked for once comments and texts are out of the way. */
  private static void source(String text) {
    for (char sign : text.toCharArray()) {
      if (sign > 127) {
        Check.due("signs up to 127", () -> (int) sign, "at most 127");
      }
    }
    String code = withoutComments(text);
    String[] barred = {"->", "::", "\\btry\\b", "\\bcatch\\b", "\\bfinally\\b", "\\bassert\\b", "\\bsynchronized\\b",
      "\\bpackage\\b", "static \\{", "Exact\\(", "\\bSystem\\.(?!arraycopy)", "\\bThread\\b", "\\bRandom\\b",
      "\\bObject\\b", "\\binstanceof\\b", "\\bvar\\b", "\\bextends\\b", "while \\(true\\)", "for \\(;;\\)"};
    for (String pattern : barred) {
      Matcher found = Pattern.compile(pattern).matcher(code);
      Check.due("the language has no " + pattern, found::find, false);
    }
    Matcher imports = Pattern.compile("(?m)^import (.*);$").matcher(code);
    while (imports.find()) {
      String name = imports.group(1);
      Check.due("an import", () -> name, "java.util.NoSuchElementException");
    }
    Matcher statics = Pattern.compile("\\bstatic (?!final)(?!\\w+ \\w+\\()[^\n]*=").matcher(code);
    Check.due("static fields are final", statics::find, false);
    methodLengths(text.split("\n"));
  }

  private static void methodLengths(String[] lines) {
    int start = -1;
    for (int i = 0; i < lines.length; i++) {
      boolean opens = lines[i].matches(" {2}( {2})?[A-Za-z].*\\{") && !lines[i].contains(" class ");
      boolean splits = lines[i].matches(" {2}( {2})?[A-Za-z].*\\)") && i + 1 < lines.length
          && lines[i + 1].matches(" +throws .*\\{");
      if (opens || splits) {
        start = i;
      }
      if (start >= 0 && lines[i].matches(" {2}( {2})?\\}")) {
        String first = lines[start];
        int length = i - start + 1;
        Check.due("at most sixty lines:" + first, () -> length <= 60, true);
        start = -1;
      }
    }
  }

  /** Calls go at most eight deep, the call of the face counted, and none comes back to itself. */
  private static void callDepth(String code) {
    Map<String, String> bodies = new HashMap<>();
    Matcher methods = METHOD.matcher(code);
    while (methods.find()) {
      String name = methods.group(2);
      String body = methods.group(3);
      Check.due("a name of its own, so that it is known which one is called: " + name,
          () -> bodies.put(name, body) == null, true);
    }
    isFound(Foldrose.class, bodies);
    for (Class<?> inside : Foldrose.class.getDeclaredClasses()) {
      isFound(inside, bodies);
    }
    for (String name : bodies.keySet()) {
      Check.due("at most " + DEEPEST + " calls deep: " + name, () -> depth(name, bodies, 1) <= DEEPEST, true);
    }
  }

  private static void isFound(Class<?> type, Map<String, String> bodies) {
    for (Method method : type.getDeclaredMethods()) {
      Check.due("found in the text: " + method, () -> bodies.containsKey(method.getName()), true);
    }
  }

  private static int depth(String name, Map<String, String> bodies, int open) {
    int deepest = 1;
    Matcher calls = Pattern.compile("(\\w+)\\(").matcher(bodies.get(name));
    while (calls.find() && open <= DEEPEST) {
      if (bodies.containsKey(calls.group(1))) {
        deepest = Math.max(deepest, 1 + depth(calls.group(1), bodies, open + 1));
      }
    }
    return deepest;
  }
}
