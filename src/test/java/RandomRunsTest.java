import java.lang.reflect.InvocationTargetException;
import java.lang.reflect.Method;
import java.util.ArrayList;
import java.util.HashMap;
import java.util.List;
import java.util.Map;

/** Runs of calls, drawn by a fixed rule, on Foldrose and on PlainRose: both have to answer the same. */
public final class RandomRunsTest {
  /** Each call with how often it is drawn and what its arguments are: w word, g group, m map, l letter, numbers. */
  private static final String[] CALLS = {
    "spell 30 -", "type 1 l", "wipe 1 -", "word 1 -", "length 1 w", "letter 2 wi", "compare 2 ww", "product 4 ww",
    "inverse 2 w", "power 2 we", "core 1 w", "exponent 1 w", "sum 1 wl", "commute 1 ww", "conjugator 2 ww",
    "group 4 -", "generate 14 gw", "undo 2 g", "points 1 g", "rank 1 g", "next 2 gpl", "leads 1 gw",
    "contains 2 gw", "index 2 g", "basis 3 gi", "written 2 gw", "writtenAt 3 gwi", "meet 3 gg", "join 2 gg",
    "conjugate 3 gw", "fill 2 g", "isWithin 2 gg", "areConjugate 2 gg", "isMalnormal 2 g", "isNormal 2 g",
    "count 2 gn", "map 2 -", "image 8 mlw", "apply 2 mw", "compose 2 mm", "isOnto 2 m", "invert 3 m", "fixes 1 mw",
    "growth 2 mln", "isTrack 2 m", "determinant 1 m", "shorten 2 w", "isPrimitive 2 w", "areOfOrbit 2 ww",
    "checksum 2 -", "primitiveShare 1 -", "meanLength 1 -", "isSound 1 -"};
  private static final String[] ALPHABETS = {"aAbBcC", "ab", "aAbB", "abc", "abC", "a", "aab", "abbbcA"};

  private final Map<String, Method> ours = methodsOf(Foldrose.class);
  private final Map<String, Method> plain = methodsOf(PlainRose.class);
  private final List<String> drawn = new ArrayList<>();
  private long state;

  private RandomRunsTest(long seed) {
    state = seed;
    for (String call : CALLS) {
      String[] parts = call.split(" ");
      for (int i = 0; i < Integer.parseInt(parts[1]); i++) {
        drawn.add(parts[0] + " " + parts[2]);
      }
    }
  }

  public static void main(String[] args) {
    int runs = args.length > 0 ? Integer.parseInt(args[0]) : 400;
    long seed = args.length > 1 ? Long.parseLong(args[1]) : 1;
    RandomRunsTest test = new RandomRunsTest(seed);
    for (int run = 0; run < runs; run++) {
      test.run(run);
    }
    Check.end("RandomRunsTest");
  }

  private static Map<String, Method> methodsOf(Class<?> type) {
    Map<String, Method> methods = new HashMap<>();
    for (Method method : type.getDeclaredMethods()) {
      if (java.lang.reflect.Modifier.isPublic(method.getModifiers())) {
        methods.put(method.getName(), method);
      }
    }
    return methods;
  }

  private int draw(int below) {
    state = state * 6364136223846793005L + 1442695040888963407L;
    return (int) ((state >>> 33) % below);
  }

  private void run(int number) {
    Foldrose one = new Foldrose();
    PlainRose other = new PlainRose();
    String alphabet = ALPHABETS[draw(ALPHABETS.length)];
    int longest = 1 + draw(draw(4) == 0 ? 30 : 7);
    StringBuilder told = new StringBuilder("run " + number + ":");
    begin(number % 5, one, other, told);
    for (int call = 0; call < 120; call++) {
      String[] parts = drawn.get(draw(drawn.size())).split(" ");
      if (parts[0].equals("spell")) {
        spell(one, other, told, drawWord(alphabet, longest));
      } else {
        both(one, other, parts[0], values(parts[1], other), told);
      }
    }
    both(one, other, "checksum", new Object[0], told);
    both(one, other, "isSound", new Object[0], told);
  }

  /** What calls drawn one by one seldom come to: maps onto, words that others become, and groups of many points. */
  private void begin(int kind, Foldrose one, PlainRose other, StringBuilder told) {
    if (kind == 1) {
      beginWithMap(one, other, told);
    } else if (kind == 2) {
      beginWithConjugates(one, other, told);
    } else if (kind == 3) {
      beginWithGroup(one, other, told);
    } else if (kind == 4) {
      beginWithMovedWords(one, other, told);
    }
  }

  /** The images of a map made of moves and exchanges, as many as their images can be typed. */
  private String[] drawOnto() {
    List<String[]> steps = PlainRose.moves();
    steps.addAll(List.of(new String[] {"b", "a", "c"}, new String[] {"a", "c", "b"}, new String[] {"A", "b", "c"}));
    String[] images = {"a", "b", "c"};
    int most = draw(16);
    for (int i = 0; i < most; i++) {
      String[] step = steps.get(draw(steps.size()));
      String[] next = new String[3];
      boolean fits = true;
      for (int k = 0; k < 3; k++) {
        next[k] = draw(2) == 0 || i > 0 ? PlainRose.mapped(step, images[k]) : images[k];
        fits = fits && next[k].length() <= 30;
      }
      images = fits && PlainRose.onto(next) ? next : images;
    }
    return images;
  }

  private void beginWithMap(Foldrose one, PlainRose other, StringBuilder told) {
    both(one, other, "map", new Object[0], told);
    String[] images = drawOnto();
    for (int i = 0; i < 3; i++) {
      spell(one, other, told, images[i]);
      both(one, other, "image", new Object[] {0, "abc".charAt(i), other.wordCount() - 1}, told);
    }
    both(one, other, "isTrack", new Object[] {0}, told);
    both(one, other, "invert", new Object[] {0}, told);
    both(one, other, "compose", new Object[] {0, 1}, told);
    for (int i = 0; i < 3; i++) {
      both(one, other, "growth", new Object[] {draw(3), "abc".charAt(i), draw(21)}, told);
    }
    both(one, other, "apply", new Object[] {1, draw(3)}, told);
    both(one, other, "determinant", new Object[] {draw(2)}, told);
  }

  private void beginWithConjugates(Foldrose one, PlainRose other, StringBuilder told) {
    String part = drawWord("aAbBcC", 4);
    String core = PlainRose.coreOf(PlainRose.cancelled(part.repeat(1 + draw(4))));
    String turned = PlainRose.turnedRound(core).get(draw(Math.max(1, core.length())));
    for (String word : List.of(core, turned)) {
      String ahead = drawWord("aAbBcC", 6);
      spell(one, other, told, PlainRose.times(ahead, word, PlainRose.back(ahead)));
    }
    for (int i = 0; i < 4; i++) {
      both(one, other, "conjugator", new Object[] {i / 2 % 2, i % 2}, told);
    }
    both(one, other, "exponent", new Object[] {draw(2)}, told);
    both(one, other, "commute", new Object[] {0, 1}, told);
  }

  private void beginWithGroup(Foldrose one, PlainRose other, StringBuilder told) {
    both(one, other, "group", new Object[0], told);
    both(one, other, "group", new Object[0], told);
    int words = 1 + draw(16);
    for (int i = 0; i < words; i++) {
      spell(one, other, told, drawWord(draw(2) == 0 ? "aAbBcC" : "aAbb", 1 + draw(13)));
      both(one, other, "generate", new Object[] {draw(5) / 4, i}, told);
    }
    both(one, other, "fill", new Object[] {draw(2)}, told);
    both(one, other, "conjugate", new Object[] {draw(3), draw(words)}, told);
    both(one, other, "meet", new Object[] {draw(3), draw(3)}, told);
    both(one, other, "isMalnormal", new Object[] {0}, told);
    both(one, other, "areConjugate", new Object[] {draw(3), 3}, told);
    for (int i = 0; i < 2 * words; i++) {
      both(one, other, "undo", new Object[] {draw(4)}, told);
      both(one, other, "points", new Object[] {draw(4)}, told);
    }
  }

  private void beginWithMovedWords(Foldrose one, PlainRose other, StringBuilder told) {
    for (int i = 0; i < 4; i++) {
      String word = drawWord("aAbBcC", 4);
      word = draw(2) == 0 ? PlainRose.cancelled(word.substring(0, Math.min(1, word.length())).repeat(draw(5))) : word;
      String moved = PlainRose.mapped(drawOnto(), word);
      spell(one, other, told, moved.length() <= 30 ? moved : word);
    }
    for (int i = 0; i < 4; i++) {
      both(one, other, "shorten", new Object[] {i}, told);
      both(one, other, "isPrimitive", new Object[] {i}, told);
      both(one, other, "areOfOrbit", new Object[] {i, draw(4)}, told);
    }
  }

  private String drawWord(String alphabet, int longest) {
    StringBuilder word = new StringBuilder();
    for (int letters = draw(longest + 1); letters > 0; letters--) {
      word.append(alphabet.charAt(draw(alphabet.length())));
    }
    return word.toString();
  }

  private void spell(Foldrose one, PlainRose other, StringBuilder told, String word) {
    for (char letter : word.toCharArray()) {
      both(one, other, "type", new Object[] {letter}, told);
    }
    both(one, other, "word", new Object[0], told);
  }

  private Object[] values(String kinds, PlainRose other) {
    Object[] values = new Object[kinds.equals("-") ? 0 : kinds.length()];
    for (int i = 0; i < values.length; i++) {
      values[i] = value(kinds.charAt(i), other);
    }
    return values;
  }

  private Object value(char kind, PlainRose other) {
    boolean odd = draw(40) == 0;
    switch (kind) {
      case 'w': return odd ? oddNumber(-3, 27) : draw(Math.max(1, other.wordCount()));
      case 'g': return odd ? oddNumber(-2, 9) : draw(Math.max(1, other.groupCount()));
      case 'm': return odd ? oddNumber(-2, 7) : draw(Math.max(1, other.mapCount()));
      case 'l': return odd ? "dDxX@`[{ \u0000\u00ff\uffff".charAt(draw(12)) : "aAbBcCabcabc".charAt(draw(12));
      case 'i': return odd ? oddNumber(-2, 90) : draw(5);
      case 'e': return odd ? oddNumber(-50, 50) : draw(15) - 7;
      case 'n': return odd ? oddNumber(-10, 40) : draw(22);
      default: return odd ? oddNumber(-2, 50) : draw(8) - 1;
    }
  }

  /** One from a number on, below another one, or at times one of the last that an int can be. */
  private int oddNumber(int from, int below) {
    int far = draw(5);
    return far == 0 ? Integer.MIN_VALUE + draw(3) : far == 1 ? Integer.MAX_VALUE - draw(3) : from + draw(below - from);
  }

  private void both(Foldrose one, PlainRose other, String name, Object[] values, StringBuilder told) {
    told.append(' ').append(name).append(java.util.Arrays.toString(values));
    String want = Check.outcome(() -> invoke(plain.get(name), other, values));
    told.append('=').append(want).append(';');
    Check.due(told.toString(), () -> invoke(ours.get(name), one, values), want);
  }

  private static Object invoke(Method method, Object object, Object[] values) {
    try {
      return method.invoke(object, values);
    } catch (InvocationTargetException thrown) {
      if (thrown.getCause() instanceof RuntimeException) {
        throw (RuntimeException) thrown.getCause();
      }
      throw new AssertionError(thrown.getCause());
    } catch (IllegalAccessException thrown) {
      throw new AssertionError(thrown);
    }
  }
}
