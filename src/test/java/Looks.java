/** What can be seen of an object. A look may change the object: each one is for an object of its own. */
final class Looks {
  private static final int TYPED = 0;
  private static final int WORDS = 1;
  private static final int ROOM = 2;
  private static final int FIRST_GROUP = 3;
  private static final int FIRST_MAP = FIRST_GROUP + 8;
  static final int COUNT = FIRST_MAP + 6;

  private Looks() {}

  static String look(Foldrose rose, int look) {
    StringBuilder seen = new StringBuilder();
    if (look == TYPED) {
      seeTyped(rose, seen);
    } else if (look == WORDS) {
      see(seen, rose::checksum);
      see(seen, rose::meanLength);
      see(seen, rose::primitiveShare);
      see(seen, rose::isSound);
      see(seen, rose::wipe);
    } else if (look == ROOM) {
      seeRoom(rose, seen);
    } else if (look < FIRST_MAP) {
      seeGroup(rose, look - FIRST_GROUP, seen);
    } else {
      seeMap(rose, look - FIRST_MAP, seen);
    }
    return seen.toString();
  }

  private static String see(StringBuilder seen, Check.Call call) {
    String outcome = Check.outcome(call);
    seen.append(' ').append(outcome);
    return outcome;
  }

  private static boolean isThere(Check.Call call) {
    return !Check.outcome(call).startsWith("throws");
  }

  private static void seeTyped(Foldrose rose, StringBuilder seen) {
    String word = see(seen, rose::word);
    if (!word.startsWith("throws")) {
      seeLetters(rose, Integer.parseInt(word), seen);
    }
    see(seen, rose::wipe);
  }

  private static void seeLetters(Foldrose rose, int word, StringBuilder seen) {
    int length = rose.length(word);
    for (int i = 0; i < length; i++) {
      seen.append(rose.letter(word, i));
    }
  }

  private static void seeRoom(Foldrose rose, StringBuilder seen) {
    for (int i = 0; i < 30 && !see(seen, rose::word).startsWith("throws"); i++) { }
    for (int i = 0; i < 12 && !see(seen, rose::group).startsWith("throws"); i++) { }
    for (int i = 0; i < 10 && !see(seen, rose::map).startsWith("throws"); i++) { }
  }

  private static void seeGroup(Foldrose rose, int group, StringBuilder seen) {
    if (!isThere(() -> rose.points(group))) {
      return;
    }
    int points = rose.points(group);
    for (int i = 0; i < points; i++) {
      int point = i;
      for (char letter : "abc".toCharArray()) {
        see(seen, () -> rose.next(group, point, letter));
      }
    }
    see(seen, () -> rose.rank(group));
    for (int i = 0; i < 90 && !see(seen, () -> rose.undo(group)).startsWith("throws"); i++) {
      see(seen, () -> rose.points(group));
    }
  }

  private static void seeMap(Foldrose rose, int map, StringBuilder seen) {
    if (!isThere(() -> rose.determinant(map))) {
      return;
    }
    see(seen, () -> rose.determinant(map));
    see(seen, () -> rose.isTrack(map));
    see(seen, () -> rose.isOnto(map));
    for (char letter : "abc".toCharArray()) {
      see(seen, () -> rose.growth(map, letter, 2));
      see(seen, rose::wipe);
      see(seen, () -> rose.type(letter));
      String word = see(seen, rose::word);
      String image = word.startsWith("throws") ? word : see(seen, () -> rose.apply(map, Integer.parseInt(word)));
      if (!image.startsWith("throws")) {
        seeLetters(rose, Integer.parseInt(image), seen);
      }
    }
  }
}
