import java.math.BigInteger;
import java.util.ArrayDeque;
import java.util.ArrayList;
import java.util.Arrays;
import java.util.HashMap;
import java.util.HashSet;
import java.util.List;
import java.util.Map;
import java.util.NoSuchElementException;
import java.util.Set;
import java.util.TreeSet;

/**
 * The document once more, as plainly and slowly as it can be said with texts and sets, to hold Foldrose against. It
 * shares no code and, wherever there is another way, no way with it.
 */
public final class PlainRose {
  private static final String LETTERS = "aAbBcC";

  private String typed = "";
  private final List<String> words = new ArrayList<>();
  private final List<List<String>> groups = new ArrayList<>();
  private final List<String[]> maps = new ArrayList<>();

  int wordCount() {
    return words.size();
  }

  int groupCount() {
    return groups.size();
  }

  int mapCount() {
    return maps.size();
  }

  // Words

  static char turned(char letter) {
    return Character.isLowerCase(letter) ? Character.toUpperCase(letter) : Character.toLowerCase(letter);
  }

  static String cancelled(String text) {
    for (int i = 0; i + 1 < text.length(); i++) {
      if (text.charAt(i) == turned(text.charAt(i + 1))) {
        return cancelled(text.substring(0, i) + text.substring(i + 2));
      }
    }
    return text;
  }

  /** Like cancelled, for texts too long for its calls of itself. */
  static String times(String... texts) {
    StringBuilder result = new StringBuilder();
    for (String text : texts) {
      for (char letter : text.toCharArray()) {
        int last = result.length() - 1;
        if (last >= 0 && result.charAt(last) == turned(letter)) {
          result.setLength(last);
        } else {
          result.append(letter);
        }
      }
    }
    return result.toString();
  }

  static String back(String word) {
    StringBuilder result = new StringBuilder();
    for (char letter : word.toCharArray()) {
      result.insert(0, turned(letter));
    }
    return result.toString();
  }

  static int order(String one, String other) {
    if (one.length() != other.length()) {
      return Integer.compare(one.length(), other.length());
    }
    for (int i = 0; i < one.length(); i++) {
      int difference = LETTERS.indexOf(one.charAt(i)) - LETTERS.indexOf(other.charAt(i));
      if (difference != 0) {
        return Integer.signum(difference);
      }
    }
    return 0;
  }

  static String coreOf(String word) {
    if (word.length() > 1 && word.charAt(0) == turned(word.charAt(word.length() - 1))) {
      return coreOf(word.substring(1, word.length() - 1));
    }
    return word;
  }

  private static int codeOf(char letter) {
    if (LETTERS.indexOf(letter) < 0) {
      throw new IllegalArgumentException();
    }
    return LETTERS.indexOf(letter);
  }

  private String wordAt(int word) {
    if (word < 0 || word >= words.size()) {
      throw new IndexOutOfBoundsException();
    }
    return words.get(word);
  }

  private int keep(String word) {
    if (words.size() == 24 || word.length() > 60) {
      throw new IllegalStateException();
    }
    words.add(word);
    return words.size() - 1;
  }

  public int type(char letter) {
    codeOf(letter);
    if (typed.length() == 30) {
      throw new IllegalStateException();
    }
    typed += letter;
    return typed.length();
  }

  public int wipe() {
    int before = typed.length();
    typed = "";
    return before;
  }

  public int word() {
    int number = keep(cancelled(typed));
    typed = "";
    return number;
  }

  public int length(int word) {
    return wordAt(word).length();
  }

  public char letter(int word, int index) {
    String text = wordAt(word);
    if (index < 0 || index >= text.length()) {
      throw new NoSuchElementException();
    }
    return text.charAt(index);
  }

  public int compare(int word, int other) {
    return order(wordAt(word), wordAt(other));
  }

  public int product(int word, int other) {
    return keep(cancelled(wordAt(word) + wordAt(other)));
  }

  public int inverse(int word) {
    return keep(back(wordAt(word)));
  }

  public int power(int word, int exponent) {
    String text = wordAt(word);
    if (Math.abs((long) exponent) > 6) {
      throw new IllegalArgumentException();
    }
    return keep(cancelled((exponent < 0 ? back(text) : text).repeat(Math.abs(exponent))));
  }

  public int core(int word) {
    return coreOf(wordAt(word)).length();
  }

  public int exponent(int word) {
    String core = coreOf(wordAt(word));
    if (core.isEmpty()) {
      throw new NoSuchElementException();
    }
    for (int times = core.length(); times > 1; times--) {
      if (core.length() % times == 0 && core.substring(0, core.length() / times).repeat(times).equals(core)) {
        return times;
      }
    }
    return 1;
  }

  public int sum(int word, char letter) {
    String text = wordAt(word);
    codeOf(letter);
    return sumOf(text, letter);
  }

  private static int sumOf(String text, char letter) {
    return (int) (text.chars().filter(c -> c == letter).count() - text.chars().filter(c -> c == turned(letter)).count());
  }

  public boolean commute(int word, int other) {
    return cancelled(wordAt(word) + wordAt(other)).equals(cancelled(wordAt(other) + wordAt(word)));
  }

  public int conjugator(int word, int other) {
    String from = wordAt(word);
    String to = wordAt(other);
    String best = null;
    for (String middle : conjugators(from, to)) {
      if (!times(middle, from, back(middle)).equals(to)) {
        throw new AssertionError("not a conjugator");
      }
      best = best == null || order(middle, best) < 0 ? middle : best;
    }
    if (best == null) {
      throw new NoSuchElementException();
    }
    return keep(best);
  }

  /** Many of them, behind one another round the core, the shortest ones surely among them. */
  private static List<String> conjugators(String from, String to) {
    List<String> result = new ArrayList<>();
    String core = coreOf(from);
    String head = from.substring(0, (from.length() - core.length()) / 2);
    String otherCore = coreOf(to);
    String otherHead = to.substring(0, (to.length() - otherCore.length()) / 2);
    if (core.isEmpty() && otherCore.isEmpty()) {
      result.add("");
    }
    for (int turn = 0; turn < core.length(); turn++) {
      if ((core.substring(turn) + core.substring(0, turn)).equals(otherCore)) {
        String line = core.repeat(5);
        for (int end = 0; end <= line.length(); end++) {
          if ((end + core.length() - turn) % core.length() == 0) {
            result.add(times(otherHead, back(line.substring(0, end)), back(head)));
          }
          if ((end + turn) % core.length() == 0) {
            result.add(times(otherHead, line.substring(line.length() - end), back(head)));
          }
        }
      }
    }
    return result;
  }

  // Groups: each one is the list of its generators, from which its graph is folded anew each time

  record Edge(int from, char letter, int to) {}

  static final class PlainGraph {
    final Set<Edge> edges = new HashSet<>();
    int made = 1;

    static PlainGraph of(List<String> generators) {
      PlainGraph graph = new PlainGraph();
      for (String generator : generators) {
        graph.addLoop(generator);
        graph.fold();
      }
      graph.takeEndsAway(0);
      return graph.numbered(0);
    }

    void addLoop(String word) {
      int point = 0;
      for (int i = 0; i < word.length(); i++) {
        int end = i == word.length() - 1 ? 0 : made++;
        addEdge(point, word.charAt(i), end);
        point = end;
      }
    }

    void addEdge(int from, char letter, int to) {
      boolean small = Character.isLowerCase(letter);
      edges.add(small ? new Edge(from, letter, to) : new Edge(to, turned(letter), from));
    }

    void fold() {
      boolean folded = true;
      while (folded) {
        folded = foldOne();
      }
    }

    private boolean foldOne() {
      for (Edge one : edges) {
        for (Edge other : edges) {
          if (one.letter == other.letter && one.from == other.from && one.to != other.to) {
            makeOne(one.to, other.to);
            return true;
          }
          if (one.letter == other.letter && one.to == other.to && one.from != other.from) {
            makeOne(one.from, other.from);
            return true;
          }
        }
      }
      return false;
    }

    private void makeOne(int one, int other) {
      int low = Math.min(one, other);
      int high = Math.max(one, other);
      List<Edge> old = new ArrayList<>(edges);
      edges.clear();
      for (Edge edge : old) {
        edges.add(new Edge(edge.from == high ? low : edge.from, edge.letter, edge.to == high ? low : edge.to));
      }
    }

    Set<Integer> pointSet() {
      Set<Integer> points = new TreeSet<>();
      for (Edge edge : edges) {
        points.add(edge.from);
        points.add(edge.to);
      }
      return points;
    }

    void takeEndsAway(int kept) {
      boolean taken = true;
      while (taken) {
        taken = false;
        for (int point : pointSet()) {
          List<Edge> at = new ArrayList<>();
          for (Edge edge : edges) {
            if (edge.from == point) {
              at.add(edge);
            }
            if (edge.to == point) {
              at.add(edge);
            }
          }
          if (point != kept && at.size() == 1) {
            edges.remove(at.get(0));
            taken = true;
          }
        }
      }
    }

    int step(int point, char letter) {
      for (Edge edge : edges) {
        if (edge.letter == letter && edge.from == point) {
          return edge.to;
        }
        if (turned(edge.letter) == letter && edge.to == point) {
          return edge.from;
        }
      }
      return -1;
    }

    int walk(int from, String word) {
      int point = from;
      for (int i = 0; i < word.length() && point >= 0; i++) {
        point = step(point, word.charAt(i));
      }
      return point;
    }

    PlainGraph numbered(int base) {
      List<Integer> order = new ArrayList<>(List.of(base));
      for (int i = 0; i < order.size(); i++) {
        for (char letter : LETTERS.toCharArray()) {
          int end = step(order.get(i), letter);
          if (end >= 0 && !order.contains(end)) {
            order.add(end);
          }
        }
      }
      PlainGraph result = new PlainGraph();
      for (Edge edge : edges) {
        if (order.contains(edge.from)) {
          result.edges.add(new Edge(order.indexOf(edge.from), edge.letter, order.indexOf(edge.to)));
        }
      }
      result.made = order.size();
      return result;
    }

    int size() {
      return made;
    }

    int rank() {
      return edges.size() - made + 1;
    }

    /** For each point but the base the edge by which it was numbered; the base has none. */
    List<Edge> tree() {
      List<Edge> tree = new ArrayList<>();
      Set<Integer> known = new HashSet<>(Set.of(0));
      for (int point = 0; point < made; point++) {
        for (char letter : LETTERS.toCharArray()) {
          int end = step(point, letter);
          if (end >= 0 && known.add(end)) {
            boolean small = Character.isLowerCase(letter);
            tree.add(small ? new Edge(point, letter, end) : new Edge(end, turned(letter), point));
          }
        }
      }
      return tree;
    }

    List<Edge> loops() {
      List<Edge> loops = new ArrayList<>(edges);
      loops.removeAll(tree());
      loops.sort((one, other) -> one.from != other.from ? one.from - other.from : one.letter - other.letter);
      return loops;
    }

    /** The way by the tree alone, found by looking at all ways in it. */
    String wayTo(int point) {
      PlainGraph tree = new PlainGraph();
      tree.edges.addAll(tree());
      Map<Integer, String> ways = new HashMap<>(Map.of(0, ""));
      ArrayDeque<Integer> open = new ArrayDeque<>(List.of(0));
      while (!open.isEmpty()) {
        int at = open.remove();
        for (char letter : LETTERS.toCharArray()) {
          int end = tree.step(at, letter);
          if (end >= 0 && !ways.containsKey(end)) {
            ways.put(end, ways.get(at) + letter);
            open.add(end);
          }
        }
      }
      return ways.get(point);
    }

    List<String> basis() {
      List<String> result = new ArrayList<>();
      for (Edge edge : loops()) {
        result.add(times(wayTo(edge.from), String.valueOf(edge.letter), back(wayTo(edge.to))));
      }
      return result;
    }

    boolean isFull() {
      return edges.size() == 3 * made;
    }
  }

  private List<String> groupAt(int group) {
    if (group < 0 || group >= groups.size()) {
      throw new IndexOutOfBoundsException();
    }
    return groups.get(group);
  }

  private final Map<List<String>, PlainGraph> known = new HashMap<>();

  private PlainGraph graphOf(List<String> generators) {
    return known.computeIfAbsent(List.copyOf(generators), PlainGraph::of);
  }

  private PlainGraph graphAt(int group) {
    return graphOf(groupAt(group));
  }

  private int keepGroup(PlainGraph graph) {
    if (groups.size() == 8 || graph.size() > 40) {
      throw new IllegalStateException();
    }
    groups.add(new ArrayList<>(graph.basis()));
    return groups.size() - 1;
  }

  public int group() {
    return keepGroup(new PlainGraph());
  }

  public int generate(int group, int word) {
    List<String> old = groupAt(group);
    List<String> generators = new ArrayList<>(old);
    generators.add(wordAt(word));
    if (old.size() >= 12 || graphOf(generators).size() > 40) {
      throw new IllegalStateException();
    }
    groups.set(group, generators);
    return graphOf(generators).rank();
  }

  public int undo(int group) {
    List<String> generators = groupAt(group);
    if (generators.isEmpty()) {
      throw new UnsupportedOperationException();
    }
    generators.remove(generators.size() - 1);
    return generators.size();
  }

  public int points(int group) {
    return graphAt(group).size();
  }

  public int rank(int group) {
    return graphAt(group).rank();
  }

  public int next(int group, int point, char letter) {
    PlainGraph graph = graphAt(group);
    codeOf(letter);
    if (point < 0 || point >= graph.size()) {
      throw new IllegalArgumentException();
    }
    return graph.step(point, letter);
  }

  public int leads(int group, int word) {
    PlainGraph graph = graphAt(group);
    return graph.walk(0, wordAt(word));
  }

  public boolean contains(int group, int word) {
    return leads(group, word) == 0;
  }

  public int index(int group) {
    PlainGraph graph = graphAt(group);
    if (!graph.isFull()) {
      throw new NoSuchElementException();
    }
    return graph.size();
  }

  public int basis(int group, int index) {
    List<String> basis = graphAt(group).basis();
    if (index < 0 || index >= basis.size()) {
      throw new NoSuchElementException();
    }
    return keep(basis.get(index));
  }

  private List<Integer> signs(int group, int word) {
    PlainGraph graph = graphAt(group);
    String text = wordAt(word);
    if (graph.walk(0, text) != 0) {
      throw new NoSuchElementException();
    }
    List<Edge> loops = graph.loops();
    List<Integer> signs = new ArrayList<>();
    int point = 0;
    for (char letter : text.toCharArray()) {
      int end = graph.step(point, letter);
      boolean small = Character.isLowerCase(letter);
      int place = loops.indexOf(small ? new Edge(point, letter, end) : new Edge(end, turned(letter), point));
      if (place >= 0) {
        signs.add(small ? place + 1 : -(place + 1));
      }
      point = end;
    }
    StringBuilder made = new StringBuilder();
    for (int sign : signs) {
      String part = graph.basis().get(Math.abs(sign) - 1);
      made.append(sign > 0 ? part : back(part));
    }
    if (!times(made.toString()).equals(text)) {
      throw new AssertionError("not written by the basis");
    }
    return signs;
  }

  public int written(int group, int word) {
    return signs(group, word).size();
  }

  public int writtenAt(int group, int word, int index) {
    List<Integer> signs = signs(group, word);
    if (index < 0 || index >= signs.size()) {
      throw new NoSuchElementException();
    }
    return signs.get(index);
  }

  static PlainGraph met(PlainGraph one, PlainGraph other) {
    PlainGraph pairs = new PlainGraph();
    int width = other.size();
    for (Edge first : one.edges) {
      for (Edge second : other.edges) {
        if (first.letter == second.letter) {
          pairs.addEdge(first.from * width + second.from, first.letter, first.to * width + second.to);
        }
      }
    }
    PlainGraph reached = pairs.numbered(0);
    reached.takeEndsAway(0);
    return reached.numbered(0);
  }

  public int meet(int group, int other) {
    return keepGroup(met(graphAt(group), graphAt(other)));
  }

  public int join(int group, int other) {
    List<String> both = new ArrayList<>(groupAt(group));
    both.addAll(groupAt(other));
    return keepGroup(graphOf(both));
  }

  private List<String> conjugated(List<String> generators, String word) {
    List<String> result = new ArrayList<>();
    for (String generator : generators) {
      result.add(times(word, generator, back(word)));
    }
    return result;
  }

  public int conjugate(int group, int word) {
    List<String> generators = groupAt(group);
    return keepGroup(graphOf(conjugated(generators, wordAt(word))));
  }

  public int fill(int group) {
    PlainGraph old = graphAt(group);
    PlainGraph filled = new PlainGraph();
    filled.edges.addAll(old.edges);
    for (char letter : "abc".toCharArray()) {
      for (int point = 0; point < old.size(); point++) {
        int lowest = 0;
        while (filled.step(lowest, turned(letter)) >= 0) {
          lowest++;
        }
        if (filled.step(point, letter) < 0) {
          filled.addEdge(point, letter, lowest);
        }
      }
    }
    return keepGroup(filled.numbered(0));
  }

  private static boolean holdsAll(PlainGraph outer, List<String> words) {
    for (String word : words) {
      if (outer.walk(0, word) != 0) {
        return false;
      }
    }
    return true;
  }

  public boolean isWithin(int group, int other) {
    List<String> inner = groupAt(group);
    return holdsAll(graphAt(other), inner);
  }

  /** The graph as it is numbered from each of its points, once the base may be taken away as well. */
  private static Set<Set<Edge>> views(PlainGraph graph) {
    PlainGraph core = new PlainGraph();
    core.edges.addAll(graph.edges);
    core.takeEndsAway(-1);
    Set<Set<Edge>> views = new HashSet<>();
    for (int point : core.pointSet()) {
      views.add(core.numbered(point).edges);
    }
    return views;
  }

  public boolean areConjugate(int group, int other) {
    return views(graphAt(group)).equals(views(graphAt(other)));
  }

  /** Any word outside the group that has a common word with it goes by the tree to two points. */
  public boolean isMalnormal(int group) {
    List<String> generators = groupAt(group);
    PlainGraph graph = graphAt(group);
    for (int one = 0; one < graph.size(); one++) {
      for (int other = one + 1; other < graph.size(); other++) {
        String word = times(graph.wayTo(one), back(graph.wayTo(other)));
        if (met(graph, PlainGraph.of(conjugated(generators, word))).rank() > 0) {
          return false;
        }
      }
    }
    return true;
  }

  public boolean isNormal(int group) {
    List<String> generators = groupAt(group);
    for (String letter : LETTERS.split("")) {
      if (!holdsAll(graphAt(group), conjugated(generators, letter))) {
        return false;
      }
    }
    return true;
  }

  public long count(int group, int length) {
    PlainGraph graph = graphAt(group);
    if (length < 0 || length > 20) {
      throw new IllegalArgumentException();
    }
    return count(graph, 0, ' ', length, new HashMap<>());
  }

  private static long count(PlainGraph graph, int point, char last, int length, Map<String, Long> known) {
    if (length == 0) {
      return point == 0 ? 1 : 0;
    }
    String key = point + " " + last + " " + length;
    if (!known.containsKey(key)) {
      long sum = 0;
      for (char letter : LETTERS.toCharArray()) {
        int end = graph.step(point, letter);
        if (end >= 0 && letter != turned(last)) {
          sum += count(graph, end, letter, length - 1, known);
        }
      }
      known.put(key, sum);
    }
    return known.get(key);
  }

  // Maps

  private String[] mapAt(int map) {
    if (map < 0 || map >= maps.size()) {
      throw new IndexOutOfBoundsException();
    }
    return maps.get(map);
  }

  static String mapped(String[] images, String word) {
    List<String> parts = new ArrayList<>();
    for (char letter : word.toCharArray()) {
      String image = images["abc".indexOf(Character.toLowerCase(letter))];
      parts.add(Character.isLowerCase(letter) ? image : back(image));
    }
    return times(parts.toArray(new String[0]));
  }

  private int keepMap(String... images) {
    if (maps.size() == 6) {
      throw new IllegalStateException();
    }
    for (String image : images) {
      if (image.length() > 60) {
        throw new IllegalStateException();
      }
    }
    maps.add(images);
    return maps.size() - 1;
  }

  public int map() {
    return keepMap("a", "b", "c");
  }

  public int image(int map, char letter, int word) {
    String[] images = mapAt(map);
    String image = wordAt(word);
    if ("abc".indexOf(letter) < 0) {
      throw new IllegalArgumentException();
    }
    int before = images["abc".indexOf(letter)].length();
    images["abc".indexOf(letter)] = image;
    return before;
  }

  public int apply(int map, int word) {
    String[] images = mapAt(map);
    return keep(mapped(images, wordAt(word)));
  }

  public int compose(int map, int other) {
    String[] first = mapAt(map);
    String[] then = mapAt(other);
    return keepMap(mapped(then, first[0]), mapped(then, first[1]), mapped(then, first[2]));
  }

  static boolean onto(String[] images) {
    return PlainGraph.of(Arrays.asList(images)).edges.equals(PlainGraph.of(List.of("a", "b", "c")).edges);
  }

  public boolean isOnto(int map) {
    return onto(mapAt(map));
  }

  public int invert(int map) {
    String[] images = mapAt(map);
    if (!onto(images)) {
      throw new UnsupportedOperationException();
    }
    if (maps.size() == 6) {
      throw new IllegalStateException();
    }
    String[] inverse = new TracedFolding(images).inverse();
    for (int i = 0; i < 3; i++) {
      String letter = "abc".substring(i, i + 1);
      if (!mapped(images, inverse[i]).equals(letter) || !mapped(inverse, images[i]).equals(letter)) {
        throw new AssertionError("not an inverse");
      }
    }
    return keepMap(inverse);
  }

  public boolean fixes(int map, int word) {
    String[] images = mapAt(map);
    return mapped(images, wordAt(word)).equals(wordAt(word));
  }

  public long growth(int map, char letter, int times) {
    String[] images = mapAt(map);
    codeOf(letter);
    if (times < 0 || times > 20) {
      throw new IllegalArgumentException();
    }
    Map<Character, BigInteger> letters = new HashMap<>();
    letters.put(Character.toLowerCase(letter), BigInteger.ONE);
    for (int i = 0; i < times; i++) {
      Map<Character, BigInteger> more = new HashMap<>();
      letters.forEach((from, often) -> {
        for (char to : images["abc".indexOf(from)].toLowerCase().toCharArray()) {
          more.merge(to, often, BigInteger::add);
        }
      });
      letters = more;
    }
    BigInteger sum = letters.values().stream().reduce(BigInteger.ZERO, BigInteger::add);
    return sum.min(BigInteger.valueOf(1000000000000000L)).longValueExact();
  }

  public boolean isTrack(int map) {
    String[] images = mapAt(map);
    for (String image : images) {
      if (image.isEmpty()) {
        return false;
      }
    }
    for (String image : images) {
      for (int i = 0; i + 1 < image.length(); i++) {
        char one = turned(image.charAt(i));
        char other = image.charAt(i + 1);
        for (int times = 0; times < 100; times++) {
          if (one == other) {
            return false;
          }
          one = mapped(images, String.valueOf(one)).charAt(0);
          other = mapped(images, String.valueOf(other)).charAt(0);
        }
      }
    }
    return true;
  }

  public long determinant(int map) {
    String[] images = mapAt(map);
    long[][] m = new long[3][3];
    for (int i = 0; i < 3; i++) {
      for (int k = 0; k < 3; k++) {
        m[i][k] = sumOf(images[i], "abc".charAt(k));
      }
    }
    return m[0][0] * m[1][1] * m[2][2] + m[0][1] * m[1][2] * m[2][0] + m[0][2] * m[1][0] * m[2][1]
        - m[0][2] * m[1][1] * m[2][0] - m[0][0] * m[1][2] * m[2][1] - m[0][1] * m[1][0] * m[2][2];
  }

  /** Folds the three images, with words along the edges that tell of which letters each way is the image. */
  private static final class TracedFolding {
    private static final class Traced {
      int from;
      int to;
      final char letter;
      String trace;

      Traced(int from, char letter, int to, String trace) {
        this.from = from;
        this.letter = letter;
        this.to = to;
        this.trace = trace;
      }
    }

    private final List<Traced> edges = new ArrayList<>();

    TracedFolding(String[] images) {
      int made = 1;
      for (int i = 0; i < 3; i++) {
        int point = 0;
        for (int k = 0; k < images[i].length(); k++) {
          int end = k == images[i].length() - 1 ? 0 : made++;
          char letter = images[i].charAt(k);
          String trace = k == 0 ? "abc".substring(i, i + 1) : "";
          edges.add(Character.isLowerCase(letter) ? new Traced(point, letter, end, trace)
              : new Traced(end, turned(letter), point, back(trace)));
          point = end;
        }
      }
    }

    String[] inverse() {
      boolean folded = true;
      while (folded) {
        folded = foldOne();
      }
      String[] result = new String[3];
      for (Traced edge : edges) {
        if (edge.from == 0 && edge.to == 0) {
          result["abc".indexOf(edge.letter)] = edge.trace;
        }
      }
      return result;
    }

    private boolean foldOne() {
      for (Traced one : edges) {
        for (Traced other : edges) {
          if (one != other && one.letter == other.letter && one.from == other.from) {
            foldEnds(one, other, one.to, other.to, times(back(other.trace), one.trace));
            return true;
          }
          if (one != other && one.letter == other.letter && one.to == other.to) {
            foldEnds(one, other, one.from, other.from, times(other.trace, back(one.trace)));
            return true;
          }
        }
      }
      return false;
    }

    /** The way from the other point to the kept one is what the trace of each way to the other one lacks. */
    private void foldEnds(Traced one, Traced other, int kept, int gone, String way) {
      if (kept == gone) {
        throw new AssertionError("an onto map folds no edges with like ends");
      }
      if (gone == 0) {
        foldEnds(other, one, gone, kept, back(way));
        return;
      }
      edges.remove(other);
      for (Traced edge : edges) {
        if (edge.to == gone) {
          edge.trace = times(edge.trace, way);
        }
        if (edge.from == gone) {
          edge.trace = times(back(way), edge.trace);
        }
        edge.to = edge.to == gone ? kept : edge.to;
        edge.from = edge.from == gone ? kept : edge.from;
      }
    }
  }

  // Moves

  static String[] move(char letter, int firstKind, int secondKind) {
    String[] images = {"a", "b", "c"};
    int still = "abc".indexOf(Character.toLowerCase(letter));
    int first = still == 0 ? 1 : 0;
    int second = still == 2 ? 1 : 2;
    images[first] = changedBy(images[first], letter, firstKind);
    images[second] = changedBy(images[second], letter, secondKind);
    return images;
  }

  private static String changedBy(String other, char letter, int kind) {
    String ahead = kind >= 2 ? String.valueOf(turned(letter)) : "";
    String behind = kind % 2 == 1 ? String.valueOf(letter) : "";
    return ahead + other + behind;
  }

  static List<String[]> moves() {
    List<String[]> moves = new ArrayList<>();
    for (char letter : LETTERS.toCharArray()) {
      for (int first = 0; first < 4; first++) {
        for (int second = 0; second < 4; second++) {
          moves.add(move(letter, first, second));
        }
      }
    }
    return moves;
  }

  static List<String> turnedRound(String word) {
    List<String> forms = new ArrayList<>();
    for (int i = 0; i < Math.max(1, word.length()); i++) {
      forms.add(word.substring(i) + word.substring(0, i));
    }
    return forms;
  }

  private static final Map<String, String> SHORTENED = new HashMap<>();

  static String shortened(String word) {
    return SHORTENED.computeIfAbsent(word, PlainRose::workOutShortened);
  }

  private static String workOutShortened(String word) {
    String now = coreOf(word);
    while (true) {
      String best = now;
      for (String[] move : moves()) {
        String moved = coreOf(mapped(move, now));
        if (moved.length() < best.length()) {
          best = moved;
        }
      }
      if (best.equals(now)) {
        break;
      }
      now = best;
    }
    String first = now;
    for (String form : turnedRound(now)) {
      first = order(form, first) < 0 ? form : first;
    }
    return first;
  }

  public int shorten(int word) {
    return keep(shortened(wordAt(word)));
  }

  public boolean isPrimitive(int word) {
    return shortened(wordAt(word)).length() == 1;
  }

  public boolean areOfOrbit(int word, int other) {
    String one = shortened(wordAt(word));
    String two = shortened(wordAt(other));
    if (one.length() > 3 || two.length() > 3) {
      throw new UnsupportedOperationException();
    }
    return one.length() == two.length() && orbit(one).contains(two);
  }

  private static final Map<String, Set<String>> ORBITS = new HashMap<>();

  /** All turned round forms of like length to which moves and exchanges lead, step by step. */
  static Set<String> orbit(String word) {
    if (ORBITS.containsKey(word)) {
      return ORBITS.get(word);
    }
    List<String[]> steps = moves();
    steps.addAll(List.of(new String[] {"b", "a", "c"}, new String[] {"a", "c", "b"}, new String[] {"A", "b", "c"}));
    Set<String> found = new HashSet<>(turnedRound(word));
    ArrayDeque<String> open = new ArrayDeque<>(found);
    while (!open.isEmpty()) {
      String from = open.remove();
      for (String[] step : steps) {
        String to = coreOf(mapped(step, from));
        for (String form : to.length() == word.length() ? turnedRound(to) : List.<String>of()) {
          if (found.add(form)) {
            open.add(form);
          }
        }
      }
    }
    ORBITS.put(word, found);
    return found;
  }

  // All

  public long checksum() {
    long sum = 7;
    for (String word : words) {
      sum = 31 * sum + word.length();
      for (char letter : word.toCharArray()) {
        sum = 31 * sum + letter;
      }
    }
    for (int group = 0; group < groups.size(); group++) {
      sum = 31 * (31 * sum + points(group)) + rank(group);
    }
    for (String[] images : maps) {
      for (String image : images) {
        sum = 31 * sum + image.length();
      }
    }
    return sum;
  }

  public float primitiveShare() {
    if (words.isEmpty()) {
      throw new ArithmeticException();
    }
    return (float) words.stream().filter(word -> shortened(word).length() == 1).count() / (float) words.size();
  }

  public double meanLength() {
    if (words.isEmpty()) {
      throw new ArithmeticException();
    }
    return (double) words.stream().mapToInt(String::length).sum() / (double) words.size();
  }

  public boolean isSound() {
    return true;
  }
}
