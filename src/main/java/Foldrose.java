import java.util.NoSuchElementException;

/**
 * Loops on a rose of three petals and all that is made of them: words that cancel, subgroups as folded graphs with
 * bases, meets, joins, conjugates, fillings and counts, maps with inverses, growth and tracks, and shortest forms by
 * moves.
 *
 * <p>A letter is held as its place in the order a, A, b, B, c, C, so that its inverse is the number with the last bit
 * turned. All rows and graphs are made with the object and used again, so that no call makes an object but an exception.
 */
public final class Foldrose {
  private static final char[] SIGNS = {'a', 'A', 'b', 'B', 'c', 'C'};
  private static final int LETTERS = 6;
  private static final int PETALS = 3;
  private static final int NONE = -1;
  private static final int TYPED_LIMIT = 30;
  private static final int WORD_LIMIT = 24;
  private static final int WORD_ROOM = 60;
  private static final int EXPONENT_LIMIT = 6;
  private static final int GROUP_LIMIT = 8;
  private static final int GENERATOR_LIMIT = 12;
  private static final int POINT_LIMIT = 40;
  /** A graph of 40 points has at most 120 edges, so 81 outside its tree. */
  private static final int BASIS_LIMIT = 2 * POINT_LIMIT + 1;
  /** Two ways in a tree of 40 points, and the edge between them. */
  private static final int BASIS_ROOM = 2 * POINT_LIMIT - 1;
  private static final int PAIR_LIMIT = POINT_LIMIT * POINT_LIMIT;
  /** Each point that becomes one with another one brings six further pairs at most. */
  private static final int MERGE_LIMIT = PAIR_LIMIT * LETTERS;
  private static final int COUNT_LIMIT = 20;
  private static final int MAP_LIMIT = 6;
  /** A word of 60 letters, each mapped to 60 before anything cancels. */
  private static final int MAPPED_ROOM = WORD_ROOM * WORD_ROOM;
  private static final int TIMES_LIMIT = 20;
  private static final long GROWTH_LIMIT = 1000000000000000L;
  private static final int KINDS = 4;
  private static final int ORBIT_LIMIT = 3;
  /** Far above the turns that any loop without a bound of its own needs. */
  private static final int TURNS = 1000000;

  private final byte[] typed = new byte[TYPED_LIMIT];
  private int typedCount;
  private final Row[] words = new Row[WORD_LIMIT];
  private int wordCount;
  /** What each word is shortened to; a word never changes, so this is worked out once. */
  private final Row[] forms = new Row[WORD_LIMIT];
  private final boolean[] formKnown = new boolean[WORD_LIMIT];
  private final Group[] groups = new Group[GROUP_LIMIT];
  private int groupCount;
  private final Images[] maps = new Images[MAP_LIMIT];
  private int mapCount;
  private final Row draft = new Row(MAPPED_ROOM);
  private final Row second = new Row(MAPPED_ROOM);
  private Graph spare = new Graph();
  private final Net net = new Net();
  private final Fitter fitter = new Fitter();
  private final Paths paths = new Paths();
  private final Shortener shortener = new Shortener();
  private final Inverter inverter = new Inverter();

  public Foldrose() {
    for (int i = 0; i < WORD_LIMIT; i++) {
      words[i] = new Row(WORD_ROOM);
      forms[i] = new Row(WORD_ROOM);
    }
    for (int i = 0; i < GROUP_LIMIT; i++) {
      groups[i] = new Group();
    }
    for (int i = 0; i < MAP_LIMIT; i++) {
      maps[i] = new Images();
    }
  }

  // Words

  public int type(char letter) throws IllegalArgumentException, IllegalStateException {
    int code = codeOf(letter);
    if (typedCount >= TYPED_LIMIT) {
      throw new IllegalStateException("30 letters are typed");
    }
    typed[typedCount] = (byte) code;
    typedCount++;
    return typedCount;
  }

  public int wipe() {
    int before = typedCount;
    typedCount = 0;
    return before;
  }

  public int word() throws IllegalStateException {
    draft.clear();
    for (int i = 0; i < typedCount; i++) {
      draft.add(typed[i]);
    }
    int number = keep(draft);
    typedCount = 0;
    return number;
  }

  public int length(int word) throws IndexOutOfBoundsException {
    return wordAt(word).size;
  }

  public char letter(int word, int index) throws IndexOutOfBoundsException, NoSuchElementException {
    Row row = wordAt(word);
    if (index < 0 || index >= row.size) {
      throw new NoSuchElementException("no such letter");
    }
    return SIGNS[row.letters[index]];
  }

  public int compare(int word, int other) throws IndexOutOfBoundsException {
    return wordAt(word).orderTo(wordAt(other));
  }

  public int product(int word, int other) throws IndexOutOfBoundsException, IllegalStateException {
    setProduct(draft, wordAt(word), wordAt(other));
    return keep(draft);
  }

  public int inverse(int word) throws IndexOutOfBoundsException, IllegalStateException {
    Row row = wordAt(word);
    draft.clear();
    draft.addInverse(row);
    return keep(draft);
  }

  public int power(int word, int exponent)
      throws IndexOutOfBoundsException, IllegalArgumentException, IllegalStateException {
    Row row = wordAt(word);
    if (exponent < -EXPONENT_LIMIT || exponent > EXPONENT_LIMIT) {
      throw new IllegalArgumentException("the exponent is out of range");
    }
    draft.clear();
    for (int i = 0; i < exponent; i++) {
      draft.addRow(row);
    }
    for (int i = 0; i < -exponent; i++) {
      draft.addInverse(row);
    }
    return keep(draft);
  }

  public int core(int word) throws IndexOutOfBoundsException {
    return wordAt(word).coreSize();
  }

  public int exponent(int word) throws IndexOutOfBoundsException, NoSuchElementException {
    Row row = wordAt(word);
    if (row.size == 0) {
      throw new NoSuchElementException("the word is empty");
    }
    int period = row.corePeriod();
    return period > 0 ? row.coreSize() / period : 1;
  }

  public int sum(int word, char letter) throws IndexOutOfBoundsException, IllegalArgumentException {
    Row row = wordAt(word);
    return row.sumOf(codeOf(letter));
  }

  public boolean commute(int word, int other) throws IndexOutOfBoundsException {
    Row one = wordAt(word);
    Row two = wordAt(other);
    setProduct(draft, one, two);
    setProduct(second, two, one);
    return draft.orderTo(second) == 0;
  }

  public int conjugator(int word, int other)
      throws IndexOutOfBoundsException, NoSuchElementException, IllegalStateException {
    Row from = wordAt(word);
    Row to = wordAt(other);
    int turn = to.turnOfCore(from);
    if (turn == NONE) {
      throw new NoSuchElementException("there is none");
    }
    // Going round the core further, either way, only makes it longer: nothing cancels where the core goes on.
    setConjugator(draft, from, to, turn, false);
    setConjugator(second, from, to, turn, true);
    return keep(second.orderTo(draft) < 0 ? second : draft);
  }

  private void setConjugator(Row result, Row from, Row to, int turn, boolean forward) {
    int start = from.coreStart();
    result.clear();
    result.addPart(to, 0, to.coreStart());
    if (forward) {
      result.addPart(from, start + turn, start + from.corePeriod());
    } else {
      result.addPartInverse(from, start, start + turn);
    }
    result.addPartInverse(from, 0, start);
  }

  // Groups

  public int group() throws IllegalStateException {
    net.start();
    net.addPoint();
    return keepGroup();
  }

  public int generate(int group, int word) throws IndexOutOfBoundsException, IllegalStateException {
    Group changed = groupAt(group);
    Row row = wordAt(word);
    if (changed.generatorCount >= GENERATOR_LIMIT) {
      throw new IllegalStateException("it has 12 generators");
    }
    net.start();
    int base = net.addGraph(changed.graph);
    net.addPath(base, row, base);
    if (!net.finish(spare)) {
      throw new IllegalStateException("it would have too many points");
    }
    exchangeSpare(changed);
    changed.addGenerator(row);
    return changed.graph.loopCount;
  }

  public int undo(int group) throws IndexOutOfBoundsException, UnsupportedOperationException {
    Group changed = groupAt(group);
    if (changed.generatorCount <= 0) {
      throw new UnsupportedOperationException("it has no generator");
    }
    changed.generatorCount--;
    foldAgain(changed);
    return changed.generatorCount;
  }

  public int points(int group) throws IndexOutOfBoundsException {
    return groupAt(group).graph.size;
  }

  public int rank(int group) throws IndexOutOfBoundsException {
    return groupAt(group).graph.loopCount;
  }

  public int next(int group, int point, char letter) throws IndexOutOfBoundsException, IllegalArgumentException {
    Graph graph = groupAt(group).graph;
    if (point < 0 || point >= graph.size) {
      throw new IllegalArgumentException("no such point");
    }
    return graph.step(point, codeOf(letter));
  }

  public int leads(int group, int word) throws IndexOutOfBoundsException {
    Graph graph = groupAt(group).graph;
    return graph.walk(wordAt(word));
  }

  public boolean contains(int group, int word) throws IndexOutOfBoundsException {
    Graph graph = groupAt(group).graph;
    return graph.walk(wordAt(word)) == 0;
  }

  public int index(int group) throws IndexOutOfBoundsException, NoSuchElementException {
    Graph graph = groupAt(group).graph;
    if (!graph.isFull()) {
      throw new NoSuchElementException("it has no index");
    }
    return graph.size;
  }

  public int basis(int group, int index)
      throws IndexOutOfBoundsException, NoSuchElementException, IllegalStateException {
    Graph graph = groupAt(group).graph;
    if (index < 0 || index >= graph.loopCount) {
      throw new NoSuchElementException("no such word of the basis");
    }
    graph.setBasisWord(draft, index);
    return keep(draft);
  }

  public int written(int group, int word) throws IndexOutOfBoundsException, NoSuchElementException {
    Graph graph = groupAt(group).graph;
    Row row = wordAt(word);
    refuseOutside(graph, row);
    return graph.loopsPassed(row);
  }

  public int writtenAt(int group, int word, int index) throws IndexOutOfBoundsException, NoSuchElementException {
    Graph graph = groupAt(group).graph;
    Row row = wordAt(word);
    refuseOutside(graph, row);
    int sign = index < 0 ? 0 : graph.loopPassedAt(row, index);
    if (sign == 0) {
      throw new NoSuchElementException("no such number");
    }
    return sign;
  }

  public int meet(int group, int other) throws IndexOutOfBoundsException, IllegalStateException {
    Graph one = groupAt(group).graph;
    Graph two = groupAt(other).graph;
    net.start();
    net.addPairs(one, two);
    return keepGroup();
  }

  public int join(int group, int other) throws IndexOutOfBoundsException, IllegalStateException {
    Graph one = groupAt(group).graph;
    Graph two = groupAt(other).graph;
    net.start();
    int base = net.addGraph(one);
    net.makeOne(base, net.addGraph(two));
    return keepGroup();
  }

  public int conjugate(int group, int word) throws IndexOutOfBoundsException, IllegalStateException {
    Graph graph = groupAt(group).graph;
    Row row = wordAt(word);
    net.start();
    int base = net.addPoint();
    net.addPath(base, row, net.addGraph(graph));
    return keepGroup();
  }

  public int fill(int group) throws IndexOutOfBoundsException, IllegalStateException {
    Graph graph = groupAt(group).graph;
    net.start();
    net.addGraph(graph);
    net.addMissing();
    return keepGroup();
  }

  public boolean isWithin(int group, int other) throws IndexOutOfBoundsException {
    Graph inner = groupAt(group).graph;
    Graph outer = groupAt(other).graph;
    return fitter.fits(inner, 0, outer, 0);
  }

  public boolean areConjugate(int group, int other) throws IndexOutOfBoundsException {
    Graph one = groupAt(group).graph;
    Graph two = groupAt(other).graph;
    setCore(fitter.coreOne, one);
    setCore(fitter.coreTwo, two);
    return fitter.coresAreAlike();
  }

  public boolean isMalnormal(int group) throws IndexOutOfBoundsException {
    Graph graph = groupAt(group).graph;
    net.start();
    return net.pairsAreTrees(graph);
  }

  public boolean isNormal(int group) throws IndexOutOfBoundsException {
    Graph graph = groupAt(group).graph;
    if (graph.loopCount == 0) {
      return true;
    }
    // But for the empty word alone, a normal group of so few generators always has an index.
    boolean alike = graph.isFull();
    for (int point = 0; alike && point < graph.size; point++) {
      alike = fitter.fits(graph, 0, graph, point);
    }
    return alike;
  }

  public long count(int group, int length) throws IndexOutOfBoundsException, IllegalArgumentException {
    Graph graph = groupAt(group).graph;
    if (length < 0 || length > COUNT_LIMIT) {
      throw new IllegalArgumentException("the length is out of range");
    }
    return paths.loopsOf(graph, length);
  }

  // Maps

  public int map() throws IllegalStateException {
    refuseSeventhMap();
    maps[mapCount].reset();
    mapCount++;
    return mapCount - 1;
  }

  public int image(int map, char letter, int word) throws IndexOutOfBoundsException, IllegalArgumentException {
    Images changed = mapAt(map);
    Row row = wordAt(word);
    int code = codeOf(letter);
    if ((code & 1) != 0) {
      throw new IllegalArgumentException("no small letter");
    }
    Row image = changed.rows[code >> 1];
    int before = image.size;
    image.set(row);
    return before;
  }

  public int apply(int map, int word) throws IndexOutOfBoundsException, IllegalStateException {
    Images images = mapAt(map);
    images.setMapped(draft, wordAt(word));
    return keep(draft);
  }

  public int compose(int map, int other) throws IndexOutOfBoundsException, IllegalStateException {
    Images first = mapAt(map);
    Images then = mapAt(other);
    refuseSeventhMap();
    Images made = maps[mapCount];
    for (int petal = 0; petal < PETALS; petal++) {
      then.setMapped(draft, first.rows[petal]);
      takeImage(made.rows[petal], draft);
    }
    mapCount++;
    return mapCount - 1;
  }

  public boolean isOnto(int map) throws IndexOutOfBoundsException {
    return reachesAll(mapAt(map));
  }

  public int invert(int map)
      throws IndexOutOfBoundsException, UnsupportedOperationException, IllegalStateException {
    Images images = mapAt(map);
    if (!reachesAll(images)) {
      throw new UnsupportedOperationException("it is not onto");
    }
    refuseSeventhMap();
    if (!inverter.setInverse(maps[mapCount], images)) {
      throw new IllegalStateException("an image would be too long");
    }
    mapCount++;
    return mapCount - 1;
  }

  public boolean fixes(int map, int word) throws IndexOutOfBoundsException {
    Images images = mapAt(map);
    Row row = wordAt(word);
    images.setMapped(draft, row);
    return draft.orderTo(row) == 0;
  }

  public long growth(int map, char letter, int times) throws IndexOutOfBoundsException, IllegalArgumentException {
    Images images = mapAt(map);
    int code = codeOf(letter);
    if (times < 0 || times > TIMES_LIMIT) {
      throw new IllegalArgumentException("the times are out of range");
    }
    return images.sizeAfter(code >> 1, times);
  }

  public boolean isTrack(int map) throws IndexOutOfBoundsException {
    Images images = mapAt(map);
    boolean holds = true;
    for (int petal = 0; petal < PETALS; petal++) {
      holds = holds && images.rows[petal].size > 0;
    }
    for (int petal = 0; holds && petal < PETALS; petal++) {
      holds = images.keepsTurns(images.rows[petal]);
    }
    return holds;
  }

  public long determinant(int map) throws IndexOutOfBoundsException {
    Row[] rows = mapAt(map).rows;
    long result = 0;
    for (int column = 0; column < PETALS; column++) {
      int after = (column + 1) % PETALS;
      int last = (column + 2) % PETALS;
      long minor = (long) rows[1].sumOf(2 * after) * rows[2].sumOf(2 * last)
          - (long) rows[1].sumOf(2 * last) * rows[2].sumOf(2 * after);
      result += rows[0].sumOf(2 * column) * minor;
    }
    return result;
  }

  // Moves

  public int shorten(int word) throws IndexOutOfBoundsException, IllegalStateException {
    return keep(formOf(word));
  }

  public boolean isPrimitive(int word) throws IndexOutOfBoundsException {
    return formOf(word).size == 1;
  }

  public boolean areOfOrbit(int word, int other) throws IndexOutOfBoundsException, UnsupportedOperationException {
    Row one = formOf(word);
    Row two = formOf(other);
    if (one.size > ORBIT_LIMIT || two.size > ORBIT_LIMIT) {
      throw new UnsupportedOperationException("one becomes longer than 3");
    }
    // Of at most 3 letters, one that stands there once, capital or small, can take all others away by moves. So a
    // shortest form so short is one letter again and again, and an exchange of letters leads to each such form.
    return one.size == two.size;
  }

  // All

  public long checksum() {
    long sum = 7;
    for (int i = 0; i < wordCount; i++) {
      sum = 31 * sum + words[i].size;
      for (int k = 0; k < words[i].size; k++) {
        sum = 31 * sum + SIGNS[words[i].letters[k]];
      }
    }
    for (int i = 0; i < groupCount; i++) {
      sum = 31 * sum + groups[i].graph.size;
      sum = 31 * sum + groups[i].graph.loopCount;
    }
    for (int i = 0; i < mapCount; i++) {
      for (int petal = 0; petal < PETALS; petal++) {
        sum = 31 * sum + maps[i].rows[petal].size;
      }
    }
    return sum;
  }

  public float primitiveShare() throws ArithmeticException {
    if (wordCount <= 0) {
      throw new ArithmeticException("there are no words");
    }
    int primitive = 0;
    for (int i = 0; i < wordCount; i++) {
      if (formOf(i).size == 1) {
        primitive++;
      }
    }
    return (float) primitive / (float) wordCount;
  }

  public double meanLength() throws ArithmeticException {
    if (wordCount <= 0) {
      throw new ArithmeticException("there are no words");
    }
    int letters = 0;
    for (int i = 0; i < wordCount; i++) {
      letters += words[i].size;
    }
    return (double) letters / (double) wordCount;
  }

  public boolean isSound() {
    boolean sound = true;
    for (int i = 0; i < wordCount; i++) {
      sound = sound && words[i].isCancelled();
    }
    for (int i = 0; i < groupCount; i++) {
      sound = sound && groups[i].isConsistent();
    }
    for (int i = 0; i < mapCount; i++) {
      for (int petal = 0; petal < PETALS; petal++) {
        sound = sound && maps[i].rows[petal].isCancelled();
      }
    }
    return sound;
  }

  // What the calls above share

  private int codeOf(char sign) {
    for (int code = 0; code < LETTERS; code++) {
      if (SIGNS[code] == sign) {
        return code;
      }
    }
    throw new IllegalArgumentException("no such letter");
  }

  private Row wordAt(int word) {
    if (word < 0 || word >= wordCount) {
      throw new IndexOutOfBoundsException("no such word");
    }
    return words[word];
  }

  private Group groupAt(int group) {
    if (group < 0 || group >= groupCount) {
      throw new IndexOutOfBoundsException("no such group");
    }
    return groups[group];
  }

  private Images mapAt(int map) {
    if (map < 0 || map >= mapCount) {
      throw new IndexOutOfBoundsException("no such map");
    }
    return maps[map];
  }

  private int keep(Row row) {
    if (wordCount >= WORD_LIMIT) {
      throw new IllegalStateException("there are 24 words");
    }
    if (row.size > WORD_ROOM) {
      throw new IllegalStateException("it would be too long");
    }
    words[wordCount].set(row);
    wordCount++;
    return wordCount - 1;
  }

  private static void setProduct(Row result, Row one, Row two) {
    result.clear();
    result.addRow(one);
    result.addRow(two);
  }

  private Row formOf(int word) {
    Row row = wordAt(word);
    if (!formKnown[word]) {
      shortener.setShortest(forms[word], row);
      formKnown[word] = true;
    }
    return forms[word];
  }

  private void refuseSeventhMap() {
    if (mapCount >= MAP_LIMIT) {
      throw new IllegalStateException("there are 6 maps");
    }
  }

  private static void refuseOutside(Graph graph, Row row) {
    if (graph.walk(row) != 0) {
      throw new NoSuchElementException("it is not in the group");
    }
  }

  private static void takeImage(Row image, Row made) {
    if (made.size > WORD_ROOM) {
      throw new IllegalStateException("an image would be too long");
    }
    image.set(made);
  }

  /** Makes a group of what the net holds; until it is counted, its place is free to be written over. */
  private int keepGroup() {
    if (groupCount >= GROUP_LIMIT) {
      throw new IllegalStateException("there are 8 groups");
    }
    Group made = groups[groupCount];
    if (!net.finish(made.graph)) {
      throw new IllegalStateException("it would have too many points");
    }
    made.generateByBasis(draft);
    groupCount++;
    return groupCount - 1;
  }

  private void exchangeSpare(Group group) {
    Graph old = group.graph;
    group.graph = spare;
    spare = old;
  }

  /** One generator after the other, so that the net stays small; each group on the way has been there before. */
  private void foldAgain(Group group) {
    net.start();
    net.addPoint();
    net.finish(spare);
    for (int i = 0; i < group.generatorCount; i++) {
      net.start();
      int base = net.addGraph(spare);
      net.addPath(base, group.generators[i], base);
      net.finish(spare);
    }
    exchangeSpare(group);
  }

  private void setCore(Graph core, Graph graph) {
    net.start();
    net.addGraph(graph);
    net.takeEndsAway(NONE);
    net.numberFrom(net.pointOfEdge(), core);
  }

  private boolean reachesAll(Images images) {
    net.start();
    int base = net.addPoint();
    for (int petal = 0; petal < PETALS; petal++) {
      net.addPath(base, images.rows[petal], base);
    }
    boolean all = true;
    for (int petal = 0; petal < PETALS; petal++) {
      all = all && net.follow(base, 2 * petal) == base;
    }
    return all;
  }

  /** A row of letters that cancels where it grows. Its room is as much as it can ever need. */
  private static final class Row {
    final byte[] letters;
    int size;

    Row(int room) {
      letters = new byte[room > 0 ? room : 0];
    }

    void clear() {
      size = 0;
    }

    void add(int letter) {
      if (size > 0 && letters[size - 1] == (letter ^ 1)) {
        size--;
      } else if (size < letters.length) {
        letters[size] = (byte) letter;
        size++;
      }
    }

    void addPart(Row other, int from, int end) {
      int first = from > 0 ? from : 0;
      for (int i = first; i < end && i < other.size; i++) {
        add(other.letters[i]);
      }
    }

    void addPartInverse(Row other, int from, int end) {
      int last = (end < other.size ? end : other.size) - 1;
      for (int i = last; i >= from && i >= 0; i--) {
        add(other.letters[i] ^ 1);
      }
    }

    void addRow(Row other) {
      int end = other.size;
      for (int i = 0; i < end; i++) {
        add(other.letters[i]);
      }
    }

    void addInverse(Row other) {
      for (int i = other.size - 1; i >= 0; i--) {
        add(other.letters[i] ^ 1);
      }
    }

    /** The other row is cancelled already, so nothing has to be looked at again. */
    void set(Row other) {
      size = other.size < letters.length ? other.size : letters.length;
      for (int i = 0; i < size; i++) {
        letters[i] = other.letters[i];
      }
    }

    int orderTo(Row other) {
      if (size != other.size) {
        return size < other.size ? -1 : 1;
      }
      for (int i = 0; i < size; i++) {
        if (letters[i] != other.letters[i]) {
          return letters[i] < other.letters[i] ? -1 : 1;
        }
      }
      return 0;
    }

    int sumOf(int letter) {
      int sum = 0;
      for (int i = 0; i < size; i++) {
        if (letters[i] == letter) {
          sum++;
        } else if (letters[i] == (letter ^ 1)) {
          sum--;
        }
      }
      return sum;
    }

    int oftenOnPetal(int petal) {
      int often = 0;
      for (int i = 0; i < size; i++) {
        if (letters[i] >> 1 == petal) {
          often++;
        }
      }
      return often;
    }

    boolean isCancelled() {
      for (int i = 1; i < size; i++) {
        if (letters[i - 1] == (letters[i] ^ 1)) {
          return false;
        }
      }
      return true;
    }

    int coreStart() {
      int start = 0;
      while (start < size - 1 - start && letters[start] == (letters[size - 1 - start] ^ 1)) {
        start++;
      }
      return start;
    }

    int coreSize() {
      return size - 2 * coreStart();
    }

    /** The length of the shortest part of which the core is a power, 0 if the word is empty. */
    int corePeriod() {
      int start = coreStart();
      int core = size - 2 * start;
      for (int period = 1; period < core; period++) {
        if (core % period == 0 && repeats(start, core, period)) {
          return period;
        }
      }
      return core;
    }

    private boolean repeats(int start, int core, int period) {
      for (int i = start + period; i < start + core; i++) {
        if (letters[i] != letters[i - period]) {
          return false;
        }
      }
      return true;
    }

    /** By how many letters the core of another row is turned round to be the one of this, -1 if by none. */
    int turnOfCore(Row other) {
      int core = coreSize();
      if (core != other.coreSize()) {
        return NONE;
      }
      if (core == 0) {
        return 0;
      }
      for (int turn = 0; turn < core; turn++) {
        if (isTurned(coreStart(), other, other.coreStart(), turn, core)) {
          return turn;
        }
      }
      return NONE;
    }

    private boolean isTurned(int start, Row other, int otherStart, int turn, int core) {
      for (int i = 0; i < core; i++) {
        int turned = i + turn < core ? i + turn : i + turn - core;
        if (letters[start + i] != other.letters[otherStart + turned]) {
          return false;
        }
      }
      return true;
    }

    void takeCore() {
      int start = coreStart();
      int core = size - 2 * start;
      for (int i = 0; i < core; i++) {
        letters[i] = letters[start + i];
      }
      size = core;
    }
  }

  /** A folded graph with its points numbered, the tree by which they were, and its edges outside the tree. */
  private static final class Graph {
    final int[] ends = new int[POINT_LIMIT * LETTERS];
    final int[] treeFrom = new int[POINT_LIMIT];
    final int[] treeLetter = new int[POINT_LIMIT];
    /** For each point and small letter the number of the edge in the basis, -1 for none. */
    final int[] loops = new int[POINT_LIMIT * PETALS];
    final Row back = new Row(POINT_LIMIT);
    int size;
    int loopCount;

    int step(int point, int letter) {
      if (point < 0 || point >= size || letter < 0 || letter >= LETTERS) {
        return NONE;
      }
      return ends[point * LETTERS + letter];
    }

    int walk(Row row) {
      int point = 0;
      for (int i = 0; i < row.size; i++) {
        point = step(point, row.letters[i]);
      }
      return point;
    }

    boolean isFull() {
      for (int i = 0; i < size * LETTERS; i++) {
        if (ends[i] < 0) {
          return false;
        }
      }
      return true;
    }

    int edgeCount() {
      int edges = 0;
      for (int point = 0; point < size; point++) {
        for (int letter = 0; letter < LETTERS; letter += 2) {
          if (step(point, letter) >= 0) {
            edges++;
          }
        }
      }
      return edges;
    }

    void numberLoops() {
      loopCount = 0;
      for (int point = 0; point < size; point++) {
        for (int petal = 0; petal < PETALS; petal++) {
          int end = step(point, 2 * petal);
          if (end < 0 || isInTree(point, 2 * petal, end)) {
            loops[point * PETALS + petal] = NONE;
          } else {
            loops[point * PETALS + petal] = loopCount;
            loopCount++;
          }
        }
      }
    }

    private boolean isInTree(int point, int letter, int end) {
      boolean onward = end > 0 && treeFrom[end] == point && treeLetter[end] == letter;
      boolean backward = point > 0 && treeFrom[point] == end && treeLetter[point] == (letter ^ 1);
      return onward || backward;
    }

    /** The number of the edge outside the tree by which a letter leads, with 1 more, below 0 if backward, else 0. */
    private int loopBy(int point, int letter) {
      int end = step(point, letter);
      if (end < 0) {
        return 0;
      }
      int petal = letter >> 1;
      return (letter & 1) == 0 ? loops[point * PETALS + petal] + 1 : -(loops[end * PETALS + petal] + 1);
    }

    int loopsPassed(Row row) {
      int passed = 0;
      int point = 0;
      for (int i = 0; i < row.size; i++) {
        if (loopBy(point, row.letters[i]) != 0) {
          passed++;
        }
        point = step(point, row.letters[i]);
      }
      return passed;
    }

    /** As loopBy, of the edge with this place among those passed; 0 if so many are not passed. */
    int loopPassedAt(Row row, int place) {
      int passed = 0;
      int point = 0;
      for (int i = 0; i < row.size; i++) {
        int loop = loopBy(point, row.letters[i]);
        if (loop != 0 && passed == place) {
          return loop;
        }
        if (loop != 0) {
          passed++;
        }
        point = step(point, row.letters[i]);
      }
      return 0;
    }

    void setBasisWord(Row result, int place) {
      result.clear();
      for (int i = 0; i < size * PETALS; i++) {
        if (loops[i] == place) {
          int letter = 2 * (i % PETALS);
          back.clear();
          addWayBack(back, i / PETALS);
          result.addInverse(back);
          result.add(letter);
          addWayBack(result, step(i / PETALS, letter));
        }
      }
    }

    private void addWayBack(Row result, int from) {
      int point = from;
      for (int i = 0; i < size && point > 0; i++) {
        result.add(treeLetter[point] ^ 1);
        point = treeFrom[point];
      }
    }

    boolean leadsBack() {
      for (int point = 0; point < size; point++) {
        for (int letter = 0; letter < LETTERS; letter++) {
          int end = step(point, letter);
          if (end >= 0 && step(end, letter ^ 1) != point) {
            return false;
          }
        }
      }
      return true;
    }
  }

  private static final class Group {
    Graph graph = new Graph();
    final Row[] generators = new Row[BASIS_LIMIT];
    int generatorCount;

    Group() {
      for (int i = 0; i < BASIS_LIMIT; i++) {
        generators[i] = new Row(BASIS_ROOM);
      }
    }

    void addGenerator(Row row) {
      if (generatorCount < BASIS_LIMIT) {
        generators[generatorCount].set(row);
        generatorCount++;
      }
    }

    void generateByBasis(Row draft) {
      generatorCount = 0;
      for (int i = 0; i < graph.loopCount; i++) {
        graph.setBasisWord(draft, i);
        addGenerator(draft);
      }
    }

    boolean isConsistent() {
      boolean sound = graph.leadsBack() && graph.loopCount == graph.edgeCount() - graph.size + 1;
      for (int i = 0; i < generatorCount; i++) {
        sound = sound && graph.walk(generators[i]) == 0;
      }
      return sound;
    }
  }

  /** Points and edges as they are put together, which fold at once; point 0 is the base. */
  private static final class Net {
    private final int[] ends = new int[PAIR_LIMIT * LETTERS];
    /** For a point that has become one with another one that other one, else itself. */
    private final int[] into = new int[PAIR_LIMIT];
    private final int[] marks = new int[PAIR_LIMIT];
    private final int[] pairs = new int[PAIR_LIMIT];
    private final int[] found = new int[POINT_LIMIT];
    private final int[] waitingOnes = new int[MERGE_LIMIT];
    private final int[] waitingOthers = new int[MERGE_LIMIT];
    private int waiting;
    private int size;

    void start() {
      size = 0;
      waiting = 0;
    }

    int addPoint() {
      if (size < PAIR_LIMIT) {
        into[size] = size;
        for (int letter = 0; letter < LETTERS; letter++) {
          ends[size * LETTERS + letter] = NONE;
        }
        size++;
      }
      return size - 1;
    }

    int addGraph(Graph graph) {
      int base = size;
      for (int point = 0; point < graph.size; point++) {
        addPoint();
      }
      for (int point = 0; point < graph.size && base + point < size; point++) {
        for (int letter = 0; letter < LETTERS; letter++) {
          int end = graph.step(point, letter);
          ends[(base + point) * LETTERS + letter] = end < 0 ? NONE : base + end;
        }
      }
      return base;
    }

    void addPath(int from, Row row, int to) {
      if (row.size == 0) {
        makeOne(from, to);
      }
      int point = from;
      for (int i = 0; i < row.size; i++) {
        int end = i == row.size - 1 ? to : addPoint();
        addEdge(point, row.letters[i], end);
        point = end;
      }
    }

    private void addEdge(int from, int letter, int to) {
      int point = rootOf(from);
      int end = rootOf(to);
      int there = point * LETTERS + letter;
      int back = end * LETTERS + (letter ^ 1);
      if (ends[there] < 0) {
        ends[there] = end;
      } else {
        remember(ends[there], end);
      }
      if (ends[back] < 0) {
        ends[back] = point;
      } else {
        remember(ends[back], point);
      }
      fold();
    }

    void makeOne(int one, int other) {
      remember(one, other);
      fold();
    }

    private void remember(int one, int other) {
      if (waiting < MERGE_LIMIT) {
        waitingOnes[waiting] = one;
        waitingOthers[waiting] = other;
        waiting++;
      }
    }

    private void fold() {
      for (int turn = 0; turn < TURNS && waiting > 0; turn++) {
        waiting--;
        int one = rootOf(waitingOnes[waiting]);
        int other = rootOf(waitingOthers[waiting]);
        if (one < other) {
          takeOver(one, other);
        } else if (other < one) {
          takeOver(other, one);
        }
      }
    }

    private void takeOver(int point, int gone) {
      into[gone] = point;
      for (int letter = 0; letter < LETTERS; letter++) {
        int end = ends[gone * LETTERS + letter];
        if (end >= 0 && ends[point * LETTERS + letter] < 0) {
          ends[point * LETTERS + letter] = end;
        } else if (end >= 0) {
          remember(ends[point * LETTERS + letter], end);
        }
      }
    }

    private int rootOf(int point) {
      int root = point;
      for (int i = 0; i < size && into[root] != root; i++) {
        into[root] = into[into[root]];
        root = into[root];
      }
      return root;
    }

    int follow(int point, int letter) {
      int end = ends[point * LETTERS + letter];
      return end < 0 ? NONE : rootOf(end);
    }

    private int degree(int point) {
      int degree = 0;
      for (int letter = 0; letter < LETTERS; letter++) {
        if (ends[point * LETTERS + letter] >= 0) {
          degree++;
        }
      }
      return degree;
    }

    /** Takes points with one edge alone away with it, but not the kept one. */
    void takeEndsAway(int kept) {
      for (int i = 0; i < size; i++) {
        int point = i;
        for (int k = 0; k < size && point != kept && into[point] == point && degree(point) == 1; k++) {
          point = cutEnd(point);
        }
      }
    }

    private int cutEnd(int point) {
      int near = point;
      for (int letter = 0; letter < LETTERS; letter++) {
        int end = follow(point, letter);
        if (end >= 0) {
          ends[point * LETTERS + letter] = NONE;
          ends[end * LETTERS + (letter ^ 1)] = NONE;
          near = end;
        }
      }
      return near;
    }

    /** The first point that has an edge, or the base if there is none. */
    int pointOfEdge() {
      for (int point = 0; point < size; point++) {
        if (into[point] == point && degree(point) > 0) {
          return point;
        }
      }
      return 0;
    }

    boolean finish(Graph result) {
      takeEndsAway(0);
      return numberFrom(0, result);
    }

    /** Numbers the points into a graph, unless they are too many. */
    boolean numberFrom(int base, Graph result) {
      for (int point = 0; point < size; point++) {
        marks[point] = NONE;
      }
      marks[base] = 0;
      found[0] = base;
      int numbered = 1;
      for (int i = 0; i < numbered && i < POINT_LIMIT; i++) {
        for (int letter = 0; letter < LETTERS; letter++) {
          int end = follow(found[i], letter);
          if (end >= 0 && marks[end] < 0) {
            if (numbered >= POINT_LIMIT) {
              return false;
            }
            marks[end] = numbered;
            found[numbered] = end;
            result.treeFrom[numbered] = i;
            result.treeLetter[numbered] = letter;
            numbered++;
          }
          result.ends[i * LETTERS + letter] = end < 0 ? NONE : marks[end];
        }
      }
      result.size = numbered;
      result.numberLoops();
      return true;
    }

    /** The pairs of points that are reached from both bases, which need no folding. */
    void addPairs(Graph one, Graph two) {
      for (int i = 0; i < PAIR_LIMIT; i++) {
        marks[i] = NONE;
      }
      pairPoint(0, 0);
      for (int i = 0; i < size && i < PAIR_LIMIT; i++) {
        int first = pairs[i] / POINT_LIMIT;
        int second = pairs[i] % POINT_LIMIT;
        for (int letter = 0; letter < LETTERS; letter++) {
          int firstEnd = one.step(first, letter);
          int secondEnd = two.step(second, letter);
          if (firstEnd >= 0 && secondEnd >= 0) {
            ends[i * LETTERS + letter] = pairPoint(firstEnd, secondEnd);
          }
        }
      }
    }

    private int pairPoint(int first, int second) {
      int pair = first * POINT_LIMIT + second;
      if (marks[pair] < 0) {
        marks[pair] = addPoint();
        pairs[marks[pair]] = pair;
      }
      return marks[pair];
    }

    /** Whether the pairs of two points, where letters lead from both of a pair, have no way round. */
    boolean pairsAreTrees(Graph graph) {
      for (int i = 0; i < graph.size * graph.size; i++) {
        addPoint();
      }
      for (int first = 0; first < graph.size; first++) {
        for (int second = 0; second < graph.size; second++) {
          if (first != second && closesWay(graph, first, second)) {
            return false;
          }
        }
      }
      return true;
    }

    private boolean closesWay(Graph graph, int first, int second) {
      boolean closed = false;
      for (int letter = 0; letter < LETTERS; letter += 2) {
        int firstEnd = graph.step(first, letter);
        int secondEnd = graph.step(second, letter);
        if (firstEnd >= 0 && secondEnd >= 0
            && !bringsTogether(first * graph.size + second, firstEnd * graph.size + secondEnd)) {
          closed = true;
        }
      }
      return closed;
    }

    private boolean bringsTogether(int one, int other) {
      int root = rootOf(one);
      int otherRoot = rootOf(other);
      into[otherRoot] = root;
      return root != otherRoot;
    }

    void addMissing() {
      for (int letter = 0; letter < LETTERS; letter += 2) {
        for (int point = 0; point < size; point++) {
          int end = ends[point * LETTERS + letter] < 0 ? lowestWithout(letter ^ 1) : NONE;
          if (end >= 0) {
            ends[point * LETTERS + letter] = end;
            ends[end * LETTERS + (letter ^ 1)] = point;
          }
        }
      }
    }

    private int lowestWithout(int letter) {
      for (int point = 0; point < size; point++) {
        if (ends[point * LETTERS + letter] < 0) {
          return point;
        }
      }
      return NONE;
    }
  }

  /** Lays graphs upon one another. */
  private static final class Fitter {
    final Graph coreOne = new Graph();
    final Graph coreTwo = new Graph();
    private final int[] laid = new int[POINT_LIMIT];
    private final int[] found = new int[POINT_LIMIT];

    /** Whether a graph can be laid into another one, letter upon letter, so that a point comes to lie upon one told. */
    boolean fits(Graph inner, int point, Graph outer, int upon) {
      for (int i = 0; i < POINT_LIMIT; i++) {
        laid[i] = NONE;
      }
      laid[point] = upon;
      found[0] = point;
      int reached = 1;
      for (int i = 0; i < reached && i < POINT_LIMIT; i++) {
        for (int letter = 0; letter < LETTERS; letter++) {
          int end = inner.step(found[i], letter);
          int uponEnd = outer.step(laid[found[i]], letter);
          if (end >= 0 && (uponEnd < 0 || (laid[end] >= 0 && laid[end] != uponEnd))) {
            return false;
          }
          if (end >= 0 && laid[end] < 0 && reached < POINT_LIMIT) {
            laid[end] = uponEnd;
            found[reached] = end;
            reached++;
          }
        }
      }
      return true;
    }

    boolean coresAreAlike() {
      boolean alike = false;
      for (int point = 0; !alike && point < coreTwo.size; point++) {
        alike = fits(coreOne, 0, coreTwo, point) && fits(coreTwo, point, coreOne, 0);
      }
      return alike;
    }
  }

  /** Counts ways without turning back, by the point where they end and their last letter. */
  private static final class Paths {
    private long[] ways = new long[POINT_LIMIT * LETTERS];
    private long[] longer = new long[POINT_LIMIT * LETTERS];

    long loopsOf(Graph graph, int length) {
      if (length <= 0) {
        return 1;
      }
      startFromBase(graph);
      for (int i = 1; i < length; i++) {
        lengthen(graph);
      }
      long loops = 0;
      for (int letter = 0; letter < LETTERS; letter++) {
        loops += ways[letter];
      }
      return loops;
    }

    private void startFromBase(Graph graph) {
      for (int i = 0; i < POINT_LIMIT * LETTERS; i++) {
        ways[i] = 0;
      }
      for (int letter = 0; letter < LETTERS; letter++) {
        int end = graph.step(0, letter);
        if (end >= 0) {
          ways[end * LETTERS + letter] = 1;
        }
      }
    }

    private void lengthen(Graph graph) {
      for (int i = 0; i < POINT_LIMIT * LETTERS; i++) {
        longer[i] = 0;
      }
      for (int point = 0; point < graph.size; point++) {
        for (int letter = 0; letter < LETTERS; letter++) {
          int end = graph.step(point, letter);
          if (end >= 0) {
            longer[end * LETTERS + letter] = waysBefore(point, letter);
          }
        }
      }
      long[] old = ways;
      ways = longer;
      longer = old;
    }

    private long waysBefore(int point, int letter) {
      long sum = 0;
      for (int last = 0; last < LETTERS; last++) {
        if (last != (letter ^ 1)) {
          sum += ways[point * LETTERS + last];
        }
      }
      return sum;
    }
  }

  /** The images of the small letters by a map. */
  private static final class Images {
    final Row[] rows = new Row[PETALS];
    private final int[] heads = new int[LETTERS];
    private long[] sizes = new long[PETALS];
    private long[] grownSizes = new long[PETALS];

    Images() {
      for (int petal = 0; petal < PETALS; petal++) {
        rows[petal] = new Row(WORD_ROOM);
      }
    }

    void reset() {
      for (int petal = 0; petal < PETALS; petal++) {
        rows[petal].clear();
        rows[petal].add(2 * petal);
      }
    }

    void setMapped(Row result, Row word) {
      result.clear();
      for (int i = 0; i < word.size; i++) {
        Row image = rows[word.letters[i] >> 1];
        if ((word.letters[i] & 1) == 0) {
          result.addRow(image);
        } else {
          result.addInverse(image);
        }
      }
    }

    long sizeAfter(int petal, int times) {
      for (int i = 0; i < PETALS; i++) {
        sizes[i] = 1;
      }
      for (int i = 0; i < times; i++) {
        grow();
      }
      return sizes[petal];
    }

    /** What is above the limit is held as the limit, so that the sum for 60 letters is still a long. */
    private void grow() {
      for (int petal = 0; petal < PETALS; petal++) {
        long sum = 0;
        for (int i = 0; i < rows[petal].size; i++) {
          sum += sizes[rows[petal].letters[i] >> 1];
        }
        grownSizes[petal] = sum < GROWTH_LIMIT ? sum : GROWTH_LIMIT;
      }
      long[] old = sizes;
      sizes = grownSizes;
      grownSizes = old;
    }

    /** Whether no letter and the next one in a row are so that their heads become one; no image may be empty. */
    boolean keepsTurns(Row row) {
      setHeads();
      for (int i = 1; i < row.size; i++) {
        if (becomeOne(row.letters[i - 1] ^ 1, row.letters[i])) {
          return false;
        }
      }
      return true;
    }

    private void setHeads() {
      for (int petal = 0; petal < PETALS; petal++) {
        Row image = rows[petal];
        if (image.size > 0) {
          heads[2 * petal] = image.letters[0];
          heads[2 * petal + 1] = image.letters[image.size - 1] ^ 1;
        }
      }
    }

    /** After as many turns as there are pairs of letters nothing new can come. */
    private boolean becomeOne(int one, int other) {
      int first = one;
      int second = other;
      for (int i = 0; i < LETTERS * LETTERS && first != second; i++) {
        first = heads[first];
        second = heads[second];
      }
      return first == second;
    }
  }

  /**
   * Shortens words by moves. A move is held as its letter and, bit by bit, the letters that get it behind them: the
   * two bits of a small letter and its capital one are its kind, as a capital one gets behind it what the small one,
   * turned to the inverse, has ahead.
   */
  private static final class Shortener {
    private final Row moved = new Row(3 * WORD_ROOM);
    private final Row turned = new Row(WORD_ROOM);
    /** How often, going round, a letter and the inverse of the one behind it are these two, the lower one first. */
    private final int[] turns = new int[LETTERS * LETTERS];
    private int bestLetter;
    private int bestBehind;
    private int bestSize;

    void setShortest(Row result, Row word) {
      result.set(word);
      result.takeCore();
      boolean shorter = true;
      for (int i = 0; shorter && i < WORD_ROOM; i++) {
        findBestMove(result);
        shorter = bestSize < result.size;
        if (shorter) {
          moveByBest(result);
        }
      }
      turnToFirst(result);
    }

    private void findBestMove(Row core) {
      countTurns(core);
      bestSize = core.size;
      for (int letter = 0; letter < LETTERS; letter++) {
        int petal = letter >> 1;
        int first = petal == 0 ? 1 : 0;
        int second = petal == 2 ? 1 : 2;
        int unmoved = core.size - core.oftenOnPetal(petal);
        for (int kinds = 0; kinds < KINDS * KINDS; kinds++) {
          int behind = (1 << letter) | ((kinds / KINDS) << (2 * first)) | ((kinds % KINDS) << (2 * second));
          int size = unmoved + addedBy(behind);
          if (size < bestSize) {
            bestSize = size;
            bestLetter = letter;
            bestBehind = behind;
          }
        }
      }
    }

    private void countTurns(Row core) {
      for (int i = 0; i < LETTERS * LETTERS; i++) {
        turns[i] = 0;
      }
      for (int i = 0; i < core.size; i++) {
        int one = core.letters[i];
        int other = core.letters[i + 1 < core.size ? i + 1 : 0] ^ 1;
        turns[one < other ? one * LETTERS + other : other * LETTERS + one]++;
      }
    }

    /**
     * How many letters a move puts into the core: one wherever of a letter and the inverse of the next one just one
     * gets it behind. The letter of the move counts as one that gets itself behind, and each time that it stands in
     * the core is taken off: then what cancels with it is counted right as well.
     */
    private int addedBy(int behind) {
      int added = 0;
      for (int one = 0; one < LETTERS; one++) {
        for (int other = one + 1; other < LETTERS; other++) {
          if (((behind >> one) & 1) != ((behind >> other) & 1)) {
            added += turns[one * LETTERS + other];
          }
        }
      }
      return added;
    }

    private void moveByBest(Row core) {
      moved.clear();
      for (int i = 0; i < core.size; i++) {
        int one = core.letters[i];
        boolean stays = (one >> 1) == (bestLetter >> 1);
        if (!stays && ((bestBehind >> (one ^ 1)) & 1) != 0) {
          moved.add(bestLetter ^ 1);
        }
        moved.add(one);
        if (!stays && ((bestBehind >> one) & 1) != 0) {
          moved.add(bestLetter);
        }
      }
      moved.takeCore();
      core.set(moved);
    }

    private void turnToFirst(Row core) {
      moved.set(core);
      for (int turn = 1; turn < moved.size; turn++) {
        turned.clear();
        turned.addPart(moved, turn, moved.size);
        turned.addPart(moved, 0, turn);
        if (turned.orderTo(core) < 0) {
          core.set(turned);
        }
      }
    }
  }

  /**
   * Inverts a map that is onto: its images are changed by one another, as long as that brings them ahead, until they
   * are letters, and of each one it is held of which letters it is the image.
   */
  private static final class Inverter {
    private final Row[] images = new Row[PETALS];
    private final Row[] origins = new Row[PETALS];
    private final Row image = new Row(2 * WORD_ROOM);
    private final Row origin = new Row(2 * MAPPED_ROOM);
    private boolean tooLong;

    Inverter() {
      for (int i = 0; i < PETALS; i++) {
        images[i] = new Row(WORD_ROOM);
        origins[i] = new Row(MAPPED_ROOM);
      }
    }

    /** Answers false if an image of the inverse would be too long. */
    boolean setInverse(Images result, Images map) {
      for (int i = 0; i < PETALS; i++) {
        images[i].set(map.rows[i]);
        origins[i].clear();
        origins[i].add(2 * i);
      }
      tooLong = false;
      boolean changed = true;
      for (int turn = 0; changed && !tooLong && turn < TURNS; turn++) {
        changed = changeOne();
      }
      for (int i = 0; !tooLong && i < PETALS; i++) {
        takeOrigin(result, i);
      }
      return !tooLong;
    }

    private boolean changeOne() {
      for (int one = 0; one < PETALS; one++) {
        for (int other = 0; other < PETALS; other++) {
          for (int kind = 0; one != other && kind < KINDS; kind++) {
            setChanged(image, images[one], images[other], kind);
            if (isAhead(image, images[one])) {
              change(one, other, kind);
              return true;
            }
          }
        }
      }
      return false;
    }

    private static void setChanged(Row result, Row one, Row other, int kind) {
      result.clear();
      if (kind == 1) {
        result.addRow(other);
      } else if (kind == 3) {
        result.addInverse(other);
      }
      result.addRow(one);
      if (kind == 0) {
        result.addRow(other);
      } else if (kind == 2) {
        result.addInverse(other);
      }
    }

    /** An image of n letters comes of n images of the inverse: if of more than 60 n letters, one of those is too long. */
    private void change(int one, int other, int kind) {
      setChanged(origin, origins[one], origins[other], kind);
      if (origin.size > WORD_ROOM * image.size) {
        tooLong = true;
      } else {
        images[one].set(image);
        origins[one].set(origin);
      }
    }

    /**
     * Shorter ones are ahead; of like length the one with the lower half, as told by the one beginning of it or of its
     * inverse that is lower, then by the other one. So the images come to an end only where none hides in two others.
     */
    private static boolean isAhead(Row one, Row other) {
      if (one.size != other.size) {
        return one.size < other.size;
      }
      boolean oneTurned = orderOfHalves(one, true, one, false) < 0;
      boolean otherTurned = orderOfHalves(other, true, other, false) < 0;
      int order = orderOfHalves(one, oneTurned, other, otherTurned);
      if (order == 0) {
        order = orderOfHalves(one, !oneTurned, other, !otherTurned);
      }
      return order < 0;
    }

    private static int orderOfHalves(Row one, boolean oneTurned, Row other, boolean otherTurned) {
      for (int i = 0; i < (one.size + 1) / 2; i++) {
        int first = oneTurned ? one.letters[one.size - 1 - i] ^ 1 : one.letters[i];
        int second = otherTurned ? other.letters[other.size - 1 - i] ^ 1 : other.letters[i];
        if (first != second) {
          return first < second ? -1 : 1;
        }
      }
      return 0;
    }

    private void takeOrigin(Images result, int place) {
      Row letter = images[place];
      if (letter.size != 1 || origins[place].size > WORD_ROOM) {
        tooLong = true;
        return;
      }
      Row row = result.rows[letter.letters[0] >> 1];
      row.clear();
      if ((letter.letters[0] & 1) == 0) {
        row.addRow(origins[place]);
      } else {
        row.addInverse(origins[place]);
      }
    }
  }
}
