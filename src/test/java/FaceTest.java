import java.io.IOException;
import java.lang.reflect.Constructor;
import java.lang.reflect.Executable;
import java.lang.reflect.Field;
import java.lang.reflect.Method;
import java.lang.reflect.Modifier;
import java.nio.charset.StandardCharsets;
import java.nio.file.Files;
import java.nio.file.Path;
import java.util.List;
import java.util.Set;
import java.util.TreeSet;

/** The face of the class as the document tells it, and the rules of the language for its members. */
public final class FaceTest {
  private static final String DOCUMENT = "../shared/DOC.md";

  public static void main(String[] args) throws IOException {
    face(Files.readAllLines(Path.of(DOCUMENT), StandardCharsets.UTF_8));
    members();
    Check.end("FaceTest");
  }

  private static void face(List<String> document) {
    Set<String> due = new TreeSet<>();
    for (String line : document) {
      if (line.startsWith("    public ")) {
        due.add(line.trim().replaceAll("(char|int) \\w+(?=[,)])", "$1"));
      }
    }
    Set<String> got = new TreeSet<>();
    for (Method method : Foldrose.class.getDeclaredMethods()) {
      if (Modifier.isPublic(method.getModifiers())) {
        got.add("public " + method.getReturnType() + " " + method.getName() + told(method));
      }
    }
    for (Constructor<?> constructor : Foldrose.class.getDeclaredConstructors()) {
      got.add(Modifier.toString(constructor.getModifiers()) + " Foldrose" + told(constructor));
    }
    Check.due("how many members the document has", due::size, 53);
    Check.due("the public members", () -> got, due);
    int modifiers = Foldrose.class.getModifiers();
    Check.due("public and final", () -> Modifier.isPublic(modifiers) && Modifier.isFinal(modifiers), true);
  }

  private static String told(Executable member) {
    StringBuilder text = new StringBuilder("(");
    for (Class<?> type : member.getParameterTypes()) {
      text.append(text.length() > 1 ? ", " : "").append(type);
    }
    String before = ") throws ";
    for (Class<?> type : member.getExceptionTypes()) {
      text.append(before).append(type.getSimpleName());
      before = ", ";
    }
    return text.append(member.getExceptionTypes().length > 0 ? ";" : ");").toString();
  }

  private static void members() {
    Set<String> names = new TreeSet<>();
    for (Method method : Foldrose.class.getDeclaredMethods()) {
      if (Modifier.isPublic(method.getModifiers())) {
        names.add(method.getName());
      } else {
        Check.due("private: " + method, () -> Modifier.isPrivate(method.getModifiers()), true);
      }
    }
    for (Field field : Foldrose.class.getDeclaredFields()) {
      Check.due("private: " + field, () -> Modifier.isPrivate(field.getModifiers()), true);
      Check.due("no static state: " + field, () -> !Modifier.isStatic(field.getModifiers())
          || Modifier.isFinal(field.getModifiers()), true);
    }
    Check.due("at most twelve classes", () -> Foldrose.class.getDeclaredClasses().length <= 12, true);
    inside(Foldrose.class, names);
    for (Class<?> inner : Foldrose.class.getDeclaredClasses()) {
      Check.due("static: " + inner, () -> Modifier.isStatic(inner.getModifiers())
          && !Modifier.isPublic(inner.getModifiers()) && !Modifier.isProtected(inner.getModifiers()), true);
      inside(inner, names);
    }
  }

  private static void inside(Class<?> type, Set<String> publicNames) {
    int fields = 0;
    for (Field field : type.getDeclaredFields()) {
      fields += Modifier.isStatic(field.getModifiers()) ? 0 : 1;
    }
    int instanceFields = fields;
    Check.due("at most twenty fields: " + type, () -> instanceFields <= 20, true);
    Set<String> names = new TreeSet<>();
    for (Method method : type.getDeclaredMethods()) {
      Check.due("at most seven parameters: " + method, () -> method.getParameterCount() <= 7, true);
      Check.due("one method a name: " + method, () -> names.add(method.getName()), true);
      if (type != Foldrose.class) {
        Check.due("no name of the face: " + method, () -> publicNames.contains(method.getName()), false);
      }
    }
    for (Constructor<?> constructor : type.getDeclaredConstructors()) {
      Check.due("at most seven parameters: " + constructor, () -> constructor.getParameterCount() <= 7, true);
    }
  }
}
