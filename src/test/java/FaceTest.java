import java.io.IOException;
import java.lang.reflect.Constructor;
import java.lang.reflect.Field;
import java.lang.reflect.Method;
import java.lang.reflect.Modifier;
import java.nio.charset.StandardCharsets;
import java.nio.file.Files;
import java.nio.file.Path;
import java.util.Arrays;
import java.util.Set;
import java.util.TreeSet;
import java.util.regex.Matcher;
import java.util.regex.Pattern;

/** The face of the class as the document tells it, and the rules of the language that can be looked up. */
public final class FaceTest {
  private static final String FACE = "double meanLength(); float primitiveShare(); long checksum(); boolean isSound();"
      + "int type(char); int wipe(); int word(); int length(int); char letter(int,int); int compare(int,int);"
      + "int product(int,int); int inverse(int); int power(int,int); int core(int); int exponent(int);"
      + "int sum(int,char); boolean commute(int,int); int conjugator(int,int); int group(); int generate(int,int);"
      + "int undo(int); int points(int); int rank(int); int next(int,int,char); int leads(int,int);"
      + "boolean contains(int,int); int index(int); int basis(int,int); int written(int,int);"
      + "int writtenAt(int,int,int); int meet(int,int); int join(int,int); int conjugate(int,int); int fill(int);"
      + "boolean isWithin(int,int); boolean areConjugate(int,int); boolean isMalnormal(int); boolean isNormal(int);"
      + "long count(int,int); int map(); int image(int,char,int); int apply(int,int); int compose(int,int);"
      + "boolean isOnto(int); int invert(int); boolean fixes(int,int); long growth(int,char,int); boolean isTrack(int);"
      + "long determinant(int); int shorten(int); boolean isPrimitive(int); boolean areOfOrbit(int,int);";

  public static void main(String[] args) throws IOException {
    face();
    members();
    source(Files.readString(Path.of("src/main/java/Foldrose.java"), StandardCharsets.UTF_8));
    Check.end("FaceTest");
  }

  private static void face() {
    Set<String> due = new TreeSet<>();
    for (String call : FACE.split(";")) {
      due.add(call.trim());
    }
    Set<String> got = new TreeSet<>();
    for (Method method : Foldrose.class.getDeclaredMethods()) {
      if (Modifier.isPublic(method.getModifiers())) {
        got.add(told(method));
      }
    }
    Check.due("the public methods", () -> got, due);
    int modifiers = Foldrose.class.getModifiers();
    Check.due("public and final", () -> Modifier.isPublic(modifiers) && Modifier.isFinal(modifiers), true);
    Check.due("the constructors", () -> Arrays.toString(Foldrose.class.getDeclaredConstructors()),
        "[public Foldrose()]");
  }

  private static String told(Method method) {
    StringBuilder text = new StringBuilder(method.getReturnType() + " " + method.getName() + "(");
    for (int i = 0; i < method.getParameterCount(); i++) {
      text.append(i > 0 ? "," : "").append(method.getParameterTypes()[i]);
    }
    return text.append(")").toString();
  }

  private static void members() {
    Set<String> names = new TreeSet<>();
    for (Method method : Foldrose.class.getDeclaredMethods()) {
      if (Modifier.isPublic(method.getModifiers())) {
        names.add(method.getName());
      } else {
        Check.due("private: " + method, () -> Modifier.isPrivate(method.getModifiers()), true);
      }
    }
    for (Field field : Foldrose.class.getDeclaredFields()) {
      Check.due("private: " + field, () -> Modifier.isPrivate(field.getModifiers()), true);
      Check.due("no static state: " + field, () -> !Modifier.isStatic(field.getModifiers())
          || Modifier.isFinal(field.getModifiers()), true);
    }
    Check.due("at most twelve classes", () -> Foldrose.class.getDeclaredClasses().length <= 12, true);
    inside(Foldrose.class, names);
    for (Class<?> inner : Foldrose.class.getDeclaredClasses()) {
      Check.due("static: " + inner, () -> Modifier.isStatic(inner.getModifiers())
          && !Modifier.isPublic(inner.getModifiers()) && !Modifier.isProtected(inner.getModifiers()), true);
      inside(inner, names);
    }
  }

  private static void inside(Class<?> type, Set<String> publicNames) {
    int fields = 0;
    for (Field field : type.getDeclaredFields()) {
      fields += Modifier.isStatic(field.getModifiers()) ? 0 : 1;
    }
    int instanceFields = fields;
    Check.due("at most twenty fields: " + type, () -> instanceFields <= 20, true);
    Set<String> names = new TreeSet<>();
    for (Method method : type.getDeclaredMethods()) {
      Check.due("at most seven parameters: " + method, () -> method.getParameterCount() <= 7, true);
      Check.due("one method a name: " + method, () -> names.add(method.getName()), true);
      if (type != Foldrose.class) {
        Check.due("no name of the face: " + method, () -> publicNames.contains(method.getName()), false);
      }
    }
    for (Constructor<?> constructor : type.getDeclaredConstructors()) {
      Check.due("at most seven parameters: " + constructor, () -> constructor.getParameterCount() <= 7, true);
    }
  }

  /** Words and signs that the language does not have, looked for once comments and texts are out of the way. */
  private static void source(String text) {
    for (char sign : text.toCharArray()) {
      if (sign > 127) {
        Check.due("signs up to 127", () -> (int) sign, "at most 127");
      }
    }
    String code = text.replaceAll("(?s)/\\*.*?\\*/", "").replaceAll("//[^\n]*", "").replaceAll("\"[^\"\n]*\"", "\"\"");
    String[] barred = {"->", "::", "\\btry\\b", "\\bcatch\\b", "\\bfinally\\b", "\\bassert\\b", "\\bsynchronized\\b",
      "\\bpackage\\b", "static \\{", "Exact\\(", "\\bSystem\\.(?!arraycopy)", "\\bThread\\b", "\\bRandom\\b",
      "\\bObject\\b", "\\binstanceof\\b", "\\bvar\\b", "\\bextends\\b", "while \\(true\\)", "for \\(;;\\)"};
    for (String pattern : barred) {
      Matcher found = Pattern.compile(pattern).matcher(code);
      Check.due("the language has no " + pattern, found::find, false);
    }
    Matcher imports = Pattern.compile("(?m)^import (.*);$").matcher(code);
    while (imports.find()) {
      String name = imports.group(1);
      Check.due("an import", () -> name, "java.util.NoSuchElementException");
    }
    Matcher statics = Pattern.compile("\\bstatic (?!final)(?!\\w+ \\w+\\()[^\n]*=").matcher(code);
    Check.due("static fields are final", statics::find, false);
    methodLengths(text.split("\n"));
  }

  private static void methodLengths(String[] lines) {
    int start = -1;
    for (int i = 0; i < lines.length; i++) {
      boolean opens = lines[i].matches(" {2}( {2})?[A-Za-z].*\\{") && !lines[i].contains(" class ");
      boolean splits = lines[i].matches(" {2}( {2})?[A-Za-z].*\\)") && i + 1 < lines.length
          && lines[i + 1].matches(" +throws .*\\{");
      if (opens || splits) {
        start = i;
      }
      if (start >= 0 && lines[i].matches(" {2}( {2})?\\}")) {
        String first = lines[start];
        int length = i - start + 1;
        Check.due("at most sixty lines:" + first, () -> length <= 60, true);
        start = -1;
      }
    }
  }
}
