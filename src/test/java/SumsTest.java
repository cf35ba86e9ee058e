import java.lang.reflect.Field;

/** Promises 50 to 53. */
public final class SumsTest {
  public static void main(String[] args) {
    checksums();
    shares();
    means();
    sound();
    Check.end("SumsTest");
  }

  private static void checksums() {
    Script.run("50", "checksum = 7; type a; checksum = 7; wipe; spell - = 0; checksum = 217; spell aC = 1",
        "checksum = " + (31 * (31 * (31 * 217L + 2) + 'a') + 'C'));
    Script.run("50 groups", "group; checksum = " + (31 * (31 * 7L + 1)) + "; fill 0; checksum = "
        + (31 * (31 * (31 * (31 * 7L + 1)) + 1) + 3) + "; generate 0 0 = IOOBE; spell aa; generate 0 0; checksum = "
        + (31 * (31 * (31 * (31 * (31 * (31 * (31 * 7L + 2) + 'a') + 'a') + 2) + 1) + 1) + 3));
    long identity = 31 * (31 * (31 * 7L + 1) + 1) + 1;
    Script.run("50 maps", "map; checksum = " + identity + "; map; checksum = "
        + (31 * (31 * (31 * identity + 1) + 1) + 1) + "; spell -; image 1 b 0; checksum = "
        + (31 * (31 * (31 * (31 * (31 * (31 * (31 * 7L) + 1) + 1) + 1) + 1)) + 1));
    Script.run("50 unchanged by what is thrown", "often 24 word; group; map; checksum; product 0 0 = ISE",
        "generate 0 24 = IOOBE; undo 0 = UOE; image 0 A 0 = IAE; checksum = " + afterAll());
  }

  private static long afterAll() {
    long sum = 7;
    for (int i = 0; i < 24; i++) {
      sum = 31 * sum;
    }
    sum = 31 * (31 * sum + 1);
    return 31 * (31 * (31 * sum + 1) + 1) + 1;
  }

  private static void shares() {
    Script.run("51", "primitiveShare = AE; spell a; primitiveShare = 1.0; spell aa; primitiveShare = 0.5; spell bab",
        "primitiveShare = " + 2f / 3f + "; spell -; primitiveShare = 0.5; often 3 word; primitiveShare = " + 2f / 7f);
    Script.run("51 none", "group; map; primitiveShare = AE; word; primitiveShare = 0.0");
  }

  private static void means() {
    Script.run("52", "meanLength = AE; spell -; meanLength = 0.0; spell abc; meanLength = 1.5; spell ab; meanLength = "
        + 5.0 / 3.0 + "; spell aA; meanLength = 1.25; type a; meanLength = 1.25");
    Script.run("52 none", "type a; group; map; meanLength = AE");
  }

  private static void sound() {
    Script.run("53", "isSound = true; spell abAB = 0; spell aab = 1; isSound = true; group = 0; generate 0 0; generate 0 1",
        "isSound = true; fill 0 = 1; meet 0 1 = 2; join 0 2 = 3; conjugate 0 1 = 4; isSound = true; undo 1; undo 4; undo 3",
        "isSound = true; map; image 0 a 0; isSound = true; image 0 c 1; compose 0 0; isSound = true; invert 0 = UOE",
        "isSound = true");
    unsound("an uncancelled word", "words.1.letters.1", 1);
    unsound("an uncancelled first word", "words.0.letters.1", 3);
    unsound("an uncancelled image", "maps.0.rows.2.letters.1", 1);
    unsound("an uncancelled image of a", "maps.0.rows.0.letters.2", 1);
    unsound("a generator outside its group", "groups.0.generators.1.letters.0", 4);
    unsound("a first generator outside its group", "groups.0.generators.0.letters.0", 4);
    unsound("a letter that does not lead back", "groups.0.graph.ends.0", 0);
    unsound("a capital letter that does not lead back", "groups.0.graph.ends.1", 2);
    unsound("a letter that does not lead back from the last point", "groups.0.graph.ends.14", 1);
    unsound("a rank that is not the one of the basis", "groups.0.graph.loopCount", 1);
  }

  /** No call can make an object unsound, so its fields are changed from outside; these lines go with their names. */
  private static void unsound(String what, String path, int value) {
    Foldrose rose = new Foldrose();
    spell(rose, "bb");
    spell(rose, "aab");
    rose.generate(rose.group(), 0);
    rose.generate(0, 1);
    rose.image(rose.map(), 'c', 1);
    rose.image(0, 'a', 1);
    Check.due("53 before " + what, rose::isSound, true);
    change(rose, path, value);
    Check.due("53 " + what, rose::isSound, false);
  }

  private static void spell(Foldrose rose, String word) {
    for (char letter : word.toCharArray()) {
      rose.type(letter);
    }
    rose.word();
  }

  private static void change(Object from, String path, int value) {
    String[] names = path.split("\\.");
    Object object = from;
    try {
      for (int i = 0; i < names.length; i++) {
        boolean last = i == names.length - 1;
        if (object instanceof byte[]) {
          ((byte[]) object)[Integer.parseInt(names[i])] = (byte) value;
        } else if (object instanceof int[]) {
          ((int[]) object)[Integer.parseInt(names[i])] = value;
        } else if (object instanceof Object[]) {
          object = ((Object[]) object)[Integer.parseInt(names[i])];
        } else {
          Field field = object.getClass().getDeclaredField(names[i]);
          field.setAccessible(true);
          if (last) {
            field.setInt(object, value);
          }
          object = field.get(object);
        }
      }
    } catch (ReflectiveOperationException thrown) {
      throw new AssertionError(thrown);
    }
  }
}
