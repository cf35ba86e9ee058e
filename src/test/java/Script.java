import java.lang.reflect.InvocationTargetException;
import java.lang.reflect.Method;
import java.lang.reflect.Modifier;
import java.util.ArrayList;
import java.util.Arrays;
import java.util.List;

/**
 * Runs of calls told as text, on a new object each: "product 0 1 = 2; letter 2 0 = a". Behind the = stands what is
 * due, IAE for an exception by its capital letters; without one the call is only made. A letter is one sign, or # and
 * its number; least and most are the numbers at the ends of int. "spell abC" types the letters and makes the word (-
 * for the empty one), "often 5 word" makes a call that often.
 *
 * <p>Whenever a call throws, two twins of the object are made by the calls so far, one with the call that throws and
 * one without it, and every look at the two has to find the same: a method that throws an exception changes nothing.
 */
final class Script {
  private final Foldrose object = new Foldrose();
  private final String name;
  private final StringBuilder told = new StringBuilder();
  /** The calls that did not throw. */
  private final List<String[]> made = new ArrayList<>();

  private Script(String name) {
    this.name = name;
  }

  static void run(String name, String... texts) {
    Script script = new Script(name);
    for (String text : texts) {
      for (String line : text.split(";")) {
        script.line(line.trim());
      }
    }
  }

  private void line(String line) {
    String[] sides = line.split(" = ");
    told.append(' ').append(line).append(';');
    String[] words = sides[0].trim().split(" +");
    if (sides.length == 2) {
      Check.due(name + ":" + told, () -> answer(words), due(sides[1].trim()));
    } else {
      Check.outcome(() -> answer(words));
    }
  }

  private static String due(String text) {
    switch (text) {
      case "IAE": return "throws.IllegalArgumentException";
      case "ISE": return "throws.IllegalStateException";
      case "IOOBE": return "throws.IndexOutOfBoundsException";
      case "NSEE": return "throws.NoSuchElementException";
      case "UOE": return "throws.UnsupportedOperationException";
      case "AE": return "throws.ArithmeticException";
      default: return text;
    }
  }

  private Object answer(String[] words) {
    if (words[0].equals("often")) {
      String[] call = Arrays.copyOfRange(words, 2, words.length);
      Object last = null;
      for (int i = 0; i < Integer.parseInt(words[1]); i++) {
        last = answer(call);
      }
      return last;
    }
    if (words[0].equals("spell")) {
      for (char letter : words[1].replace("-", "").toCharArray()) {
        answerOne("type", String.valueOf(letter));
      }
      return answerOne("word");
    }
    return answerOne(words);
  }

  private Object answerOne(String... call) {
    try {
      Object answer = call(object, call);
      made.add(call);
      return answer;
    } catch (RuntimeException thrown) {
      lookForChanges(call);
      throw thrown;
    }
  }

  private void lookForChanges(String[] refused) {
    for (int look = 0; look < Looks.COUNT; look++) {
      String without = Looks.look(twin(), look);
      Foldrose other = twin();
      Check.outcome(() -> call(other, refused));
      String with = Looks.look(other, look);
      Check.due(name + ":" + told + " changes nothing", () -> with, without);
    }
  }

  private Foldrose twin() {
    Foldrose twin = new Foldrose();
    for (String[] call : made) {
      call(twin, call);
    }
    return twin;
  }

  private static Object call(Foldrose object, String... words) {
    Method method = methodOf(words[0]);
    if (method.getParameterCount() != words.length - 1) {
      throw new AssertionError("not as many arguments as there are due: " + String.join(" ", words));
    }
    Object[] values = new Object[words.length - 1];
    for (int i = 0; i < values.length; i++) {
      boolean isLetter = method.getParameterTypes()[i] == char.class;
      values[i] = isLetter ? (Object) letterOf(words[i + 1]) : (Object) numberOf(words[i + 1]);
    }
    try {
      return method.invoke(object, values);
    } catch (InvocationTargetException thrown) {
      if (thrown.getCause() instanceof RuntimeException) {
        throw (RuntimeException) thrown.getCause();
      }
      throw new AssertionError(thrown.getCause());
    } catch (IllegalAccessException thrown) {
      throw new AssertionError(thrown);
    }
  }

  private static char letterOf(String text) {
    return text.length() > 1 ? (char) Integer.parseInt(text.substring(1)) : text.charAt(0);
  }

  private static int numberOf(String text) {
    switch (text) {
      case "least": return Integer.MIN_VALUE;
      case "most": return Integer.MAX_VALUE;
      default: return Integer.parseInt(text);
    }
  }

  private static Method methodOf(String name) {
    for (Method method : Foldrose.class.getDeclaredMethods()) {
      if (Modifier.isPublic(method.getModifiers()) && method.getName().equals(name)) {
        return method;
      }
    }
    throw new AssertionError("no call " + name);
  }
}
