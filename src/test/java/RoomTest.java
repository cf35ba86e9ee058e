import java.lang.reflect.Array;
import java.lang.reflect.Field;
import java.lang.reflect.Modifier;
import java.util.ArrayDeque;
import java.util.Collections;
import java.util.Deque;
import java.util.IdentityHashMap;
import java.util.Set;

/** All calls of one run live in one room: what a Foldrose holds is counted, and no call makes it more. */
public final class RoomTest {
  private static final int MOST_OBJECTS = 2000;
  private static final int MOST_ELEMENTS = 150000;

  public static void main(String[] args) throws IllegalAccessException {
    Foldrose object = new Foldrose();
    long[] before = held(object);
    Check.due("at most " + MOST_OBJECTS + " objects", () -> before[0] <= MOST_OBJECTS, true);
    Check.due("at most " + MOST_ELEMENTS + " elements", () -> before[1] <= MOST_ELEMENTS, true);
    allKindsOfCalls(new Foldrose());
    long made = madeBy(object);
    Check.due("bytes made by calls", () -> made, 0);
    long[] after = held(object);
    Check.due("as many objects as before", () -> after[0], before[0]);
    Check.due("as many elements as before", () -> after[1], before[1]);
    Check.end("RoomTest");
  }

  /** The other object has had the same calls before, so that nothing is loaded on the way. */
  private static long madeBy(Foldrose object) {
    var threads = (com.sun.management.ThreadMXBean) java.lang.management.ManagementFactory.getThreadMXBean();
    long start = threads.getCurrentThreadAllocatedBytes();
    long asking = threads.getCurrentThreadAllocatedBytes() - start;
    long first = threads.getCurrentThreadAllocatedBytes();
    allKindsOfCalls(object);
    return threads.getCurrentThreadAllocatedBytes() - first - asking;
  }

  private static void allKindsOfCalls(Foldrose rose) {
    wordCalls(rose);
    groupCalls(rose);
    mapCalls(rose);
    moveCalls(rose);
  }

  private static void wordCalls(Foldrose rose) {
    spell(rose, "aabaabC");
    spell(rose, "ba");
    spell(rose, "cbaC");
    spell(rose, "c");
    rose.type('a');
    rose.wipe();
    rose.product(0, 1);
    rose.inverse(0);
    rose.power(0, -6);
    rose.conjugator(1, 2);
    rose.length(0);
    rose.letter(0, 3);
    rose.compare(0, 1);
    rose.core(2);
    rose.exponent(0);
    rose.sum(0, 'a');
    rose.commute(0, 6);
  }

  private static void spell(Foldrose rose, String letters) {
    for (int i = 0; i < letters.length(); i++) {
      rose.type(letters.charAt(i));
    }
    rose.word();
  }

  private static void groupCalls(Foldrose rose) {
    rose.group();
    rose.generate(0, 0);
    rose.generate(0, 1);
    rose.generate(0, 2);
    rose.undo(0);
    rose.fill(0);
    rose.meet(0, 1);
    rose.join(0, 1);
    rose.conjugate(0, 2);
    rose.points(0);
    rose.rank(0);
    rose.next(0, 0, 'a');
    rose.leads(0, 1);
    rose.contains(0, 0);
    rose.index(1);
    rose.basis(0, 0);
    rose.written(0, 0);
    rose.writtenAt(0, 0, 0);
    rose.isWithin(0, 1);
    rose.areConjugate(0, 4);
    rose.isMalnormal(0);
    rose.isNormal(1);
    rose.count(0, 20);
  }

  private static void mapCalls(Foldrose rose) {
    rose.map();
    rose.image(0, 'a', 1);
    rose.apply(0, 0);
    rose.compose(0, 0);
    rose.isOnto(1);
    rose.invert(1);
    rose.fixes(0, 1);
    rose.growth(0, 'a', 20);
    rose.isTrack(0);
    rose.determinant(0);
  }

  private static void moveCalls(Foldrose rose) {
    rose.shorten(6);
    rose.isPrimitive(2);
    rose.areOfOrbit(1, 3);
    rose.checksum();
    rose.primitiveShare();
    rose.meanLength();
    rose.isSound();
  }

  /** How many objects and arrays there are, and how many fields and elements they have. */
  private static long[] held(Object root) throws IllegalAccessException {
    Set<Object> known = Collections.newSetFromMap(new IdentityHashMap<>());
    Deque<Object> open = new ArrayDeque<>();
    open.add(root);
    known.add(root);
    long elements = 0;
    while (!open.isEmpty()) {
      Object object = open.remove();
      elements += object.getClass().isArray() ? elementsOf(object, known, open) : fieldsOf(object, known, open);
    }
    return new long[] {known.size(), elements};
  }

  private static int elementsOf(Object array, Set<Object> known, Deque<Object> open) {
    int length = Array.getLength(array);
    for (int i = 0; i < length && !array.getClass().getComponentType().isPrimitive(); i++) {
      meet(Array.get(array, i), known, open);
    }
    return length;
  }

  private static int fieldsOf(Object object, Set<Object> known, Deque<Object> open) throws IllegalAccessException {
    int fields = 0;
    for (Field field : object.getClass().getDeclaredFields()) {
      if (!Modifier.isStatic(field.getModifiers())) {
        fields++;
        field.setAccessible(true);
        if (!field.getType().isPrimitive()) {
          meet(field.get(object), known, open);
        }
      }
    }
    return fields;
  }

  private static void meet(Object object, Set<Object> known, Deque<Object> open) {
    if (object != null && known.add(object)) {
      open.add(object);
    }
  }
}
