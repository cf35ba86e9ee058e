/** Promises 37 to 46. */
final class MapEdges {
  private static final String A10 = "aaaaaaaaaa";
  private static final String A30 = A10 + A10 + A10;
  private static final String NO_MAP = "Throws `IndexOutOfBoundsException` if there is no such map";
  private static final String NO_MAP_OR_WORD = "Throws `IndexOutOfBoundsException` if there is no such map or word";
  private static final String NO_MAP_EITHER = "Throws `IndexOutOfBoundsException` if there is no such map, for either";
  /** Makes map 0 and the words 0, of 30 letters a, and 1, of 60. */
  private static final String SIXTY = "map = 0; spell " + A30 + " = 0; product 0 0 = 1";

  private MapEdges() {}

  static void all() {
    making();
    missing();
    images();
    applying();
    composing();
    onto();
    inverting();
    growing();
    tracks();
    determinants();
  }

  private static void making() {
    Edges.sentence(37, "Throws `IllegalStateException` if there are 6",
        "often 5 map = 4; map = 5; determinant 5 = 1; map = ISE; map = ISE; determinant 6 = IOOBE");
    Edges.sentence(37, "Adds a map.", "map = 0; spell abC = 0; fixes 0 0 = true; image 0 a 0 = 1; image 0 b 0 = 1",
        "image 0 c 0 = 1",
        "map = 1; fixes 1 0 = true; image 1 a 0 = 1; image 1 c 0 = 1");
    // A place where an image would have been too long is an unchanged map for the next one.
    Edges.sentence(37, "Adds a map.", SIXTY, "spell b = 2; image 0 c 1 = 1; image 0 b 0 = 1; compose 0 0 = 1; map = 2",
        "image 1 a 2 = 1; image 1 a 1 = 1; compose 1 1 = ISE; map = 3; fixes 3 1 = true; image 3 a 0 = 1; image 3 b 0 = 1",
        "image 3 c 0 = 1");
  }

  /** Each call for numbers on both sides of those that there are, of no map, of one and of all 6. */
  private static void missing() {
    String[] ofOne = {"isOnto 41", "invert 42", "growth 44 a 1", "isTrack 45", "determinant 46"};
    for (String told : ofOne) {
      String[] parts = told.split(" ", 3);
      noSuchMap(Integer.parseInt(parts[1]), NO_MAP, parts[0] + " M" + (parts.length > 2 ? " " + parts[2] : ""));
    }
    noSuchMap(38, NO_MAP_OR_WORD, "image M a 0");
    noSuchMap(39, NO_MAP_OR_WORD, "apply M 0");
    noSuchMap(43, NO_MAP_OR_WORD, "fixes M 0");
    noSuchWord(38, "image 0 a W");
    noSuchWord(39, "apply 0 W");
    noSuchWord(43, "fixes 0 W");
    noSuchMap(40, NO_MAP_EITHER, "compose M 0");
    noSuchMap(40, NO_MAP_EITHER, "compose 0 M");
  }

  private static void noSuchMap(int promise, String text, String call) {
    StringBuilder script = new StringBuilder("spell ab; ");
    for (String number : new String[] {"0", "-1", "most", "least"}) {
      script.append(call.replace("M", number)).append(" = IOOBE; ");
    }
    script.append("map = 0; image 0 a 0 = 1; ");
    for (String number : new String[] {"1", "-1", "6", "most", "least"}) {
      script.append(call.replace("M", number)).append(" = IOOBE; ");
    }
    script.append("often 5 map = 5; ");
    for (String number : new String[] {"-1", "6", "7", "256", "most", "least"}) {
      script.append(call.replace("M", number)).append(" = IOOBE; ");
    }
    Edges.sentence(promise, text, script.append("growth 0 a 1 = 2; determinant 5 = 1").toString());
  }

  private static void noSuchWord(int promise, String call) {
    StringBuilder script = new StringBuilder("map = 0; ");
    for (String number : new String[] {"0", "-1", "most", "least"}) {
      script.append(call.replace("W", number)).append(" = IOOBE; ");
    }
    script.append("spell ab = 0; image 0 a 0 = 1; ");
    for (String number : new String[] {"1", "-1", "24", "most", "least"}) {
      script.append(call.replace("W", number)).append(" = IOOBE; ");
    }
    script.append("often 23 word = 23; ");
    for (String number : new String[] {"-1", "24", "25", "256", "most", "least"}) {
      script.append(call.replace("W", number)).append(" = IOOBE; ");
    }
    Edges.sentence(promise, NO_MAP_OR_WORD, script.append("growth 0 a 1 = 2").toString());
  }

  private static void images() {
    Edges.sentence(38, "Throws `IllegalArgumentException` if there is no such small letter",
        "map = 0; spell abc = 0; image 0 A 0 = IAE; image 0 B 0 = IAE; image 0 C 0 = IAE; image 0 d 0 = IAE",
        "image 0 #64 0 = IAE",
        "image 0 #96 0 = IAE; image 0 #0 0 = IAE; image 0 #353 0 = IAE; image 0 #65535 0 = IAE; image 0 D 0 = IAE");
    Edges.sentence(38, "- `letter`: a, b or c", "map = 0; spell ab = 0; image 0 a 0 = 1; image 0 b 0 = 1; image 0 c 0 = 1",
        "image 0 #96 0 = IAE; image 0 d 0 = IAE; image 0 A 0 = IAE; image 0 b 0 = 2");
    Edges.sentence(38, "Returns the length of the image before.", SIXTY, "spell - = 2; image 0 a 2 = 1; image 0 a 1 = 0",
        "image 0 a 2 = 60; image 0 a 2 = 0; image 0 b 1 = 1; image 0 b 1 = 60");
  }

  private static void applying() {
    String text = "Throws `IllegalStateException` if there are 24 words, or it would be too long";
    Edges.sentence(39, text, "map = 0; often 22 word = 21; spell ab = 22; apply 0 22 = 23; length 23 = 2; apply 0 22 = ISE",
        "apply 0 0 = ISE");
    Edges.sentence(39, text, SIXTY, "image 0 b 1 = 1; spell b = 2; apply 0 2 = 3; length 3 = 60; spell bc = 4",
        "apply 0 4 = ISE",
        "spell cb = 5; apply 0 5 = ISE; spell bb = 6; apply 0 6 = ISE; spell BB = 7; apply 0 7 = ISE; spell bA = 8",
        "apply 0 8 = 9",
        "length 9 = 59; spell B = 10; apply 0 10 = 11; length 11 = 60; letter 11 0 = A");
    // 60 letters of 60 letters each, which then cancel, and an empty image of as many.
    Edges.sentence(39, text, SIXTY, "image 0 a 1 = 1; image 0 b 1 = 1; often 15 type a; often 15 type B; word = 2",
        "apply 0 2 = 3",
        "length 3 = 0; apply 0 1 = ISE; spell - = 4; image 0 a 4 = 60; apply 0 1 = 5; length 5 = 0; apply 0 4 = 6",
        "length 6 = 0");
    Edges.sentence(43, "Tells whether a map leaves a word as it is.", SIXTY, "spell - = 2; fixes 0 2 = true",
        "fixes 0 1 = true",
        "image 0 a 1 = 1; fixes 0 1 = false; fixes 0 2 = true; image 0 a 2 = 60; fixes 0 2 = true; fixes 0 1 = false",
        "often 20 word = 22; word = 23; fixes 0 2 = true; fixes 0 1 = false");
  }

  private static void composing() {
    String text = "Throws `IllegalStateException` if there are 6, or an image would be too long";
    Edges.sentence(40, text, "often 5 map = 4; compose 0 1 = 5; compose 0 1 = ISE; compose 5 5 = ISE",
        "determinant 6 = IOOBE");
    for (char letter : "abc".toCharArray()) {
      // Sixty letters b for one, then ab for b; and 59 of them with a c, which becomes two then.
      Edges.sentence(40, text, "map = 0; map = 1; often 30 type b; word = 0; product 0 0 = 1; image 0 " + letter + " 1 = 1",
          "compose 0 1 = 2; image 2 " + letter + " 1 = 60; spell ab = 2; image 1 b 2 = 1; compose 0 1 = ISE",
          "determinant 3 = IOOBE",
          "spell B = 3; product 1 3 = 4; spell c = 5; product 4 5 = 6; length 6 = 60; image 0 " + letter + " 6 = 60",
          "map = 3",
          "spell cc = 7; image 3 c 7 = 1; compose 0 3 = ISE; spell - = 8; image 3 b 8 = 1; compose 0 3 = 4",
          "image 4 " + letter
          + " 8 = 2");
    }
    Edges.sentence(40, text, SIXTY, "map = 1; image 0 a 1 = 1; spell aB = 2; image 0 b 2 = 1; image 1 b 1 = 1",
        "image 1 a 1 = 1",
        "compose 0 1 = ISE; spell - = 3; image 0 a 3 = 60; compose 0 1 = 2; image 2 a 3 = 0; image 2 b 3 = 0",
        "image 2 c 3 = 1");
  }

  private static void onto() {
    Edges.sentence(41, "Tells whether a map is onto.", "map = 0; isOnto 0 = true; spell - = 0; spell a = 1; spell Abc = 2",
        "image 0 a 0 = 1; isOnto 0 = false; image 0 a 2 = 0; isOnto 0 = true; image 0 b 1 = 1; isOnto 0 = true",
        "image 0 c 0 = 1",
        "isOnto 0 = false; image 0 b 0; image 0 a 0; isOnto 0 = false");
    Edges.sentence(41, "Tells whether a map is onto.", SIXTY, "image 0 a 1 = 1; isOnto 0 = false; image 0 b 1; image 0 c 1",
        "isOnto 0 = false",
        "often 29 type b; word = 2; product 0 2 = 3; spell c = 4; product 3 4 = 5; length 5 = 60; map = 1; image 1 c 5 = 1",
        "isOnto 1 = true; image 1 b 1 = 1; isOnto 1 = false");
  }

  private static void inverting() {
    Edges.sentence(42, "Throws `UnsupportedOperationException` if it is not onto",
        "map = 0; spell - = 0; image 0 b 0 = 1; invert 0 = UOE; spell aa = 1; image 0 b 1 = 0; invert 0 = UOE",
        "spell bb = 2",
        "image 0 b 2 = 2; invert 0 = UOE; determinant 1 = IOOBE; spell B = 3; image 0 b 3 = 2; invert 0 = 1",
        "determinant 1 = -1");
    String text = "Throws `IllegalStateException` if there are 6, or an image would be too long";
    Edges.sentence(42, text, "often 5 map = 4; invert 0 = 5; invert 0 = ISE; invert 5 = ISE; determinant 6 = IOOBE");
    // With b to bc: a to ab^n becomes a(cB)^n, of 61 letters for 30; a to cab^29 becomes Ca(cB)^29, of 60.
    Edges.sentence(42, text, "map = 0; often 30 type b; word = 0; spell a = 1; product 1 0 = 2; spell bc = 3",
        "image 0 a 2 = 1",
        "image 0 b 3 = 1; isOnto 0 = true; invert 0 = ISE; determinant 1 = IOOBE; spell B = 4; product 2 4 = 5",
        "length 5 = 30",
        "spell c = 6; product 6 5 = 7; image 0 a 7 = 31; invert 0 = 1; apply 1 1 = 8; length 8 = 60; letter 8 0 = C",
        "letter 8 1 = a",
        "letter 8 2 = c; letter 8 59 = B; spell b = 9; apply 1 9 = 10; length 10 = 2");
    // The same for the image of b and of c, so that each of the three is looked at.
    Edges.sentence(42, text, "map = 0; often 30 type c; word = 0; spell b = 1; product 1 0 = 2; spell ca = 3",
        "image 0 b 2 = 1",
        "image 0 c 3 = 1; isOnto 0 = true; invert 0 = ISE; spell C = 4; product 2 4 = 5; image 0 b 5 = 31; invert 0 = 1",
        "apply 1 1 = 6; length 6 = 59");
    Edges.sentence(42, text, "map = 0; often 30 type a; word = 0; spell c = 1; product 1 0 = 2; spell ab = 3",
        "image 0 c 2 = 1",
        "image 0 a 3 = 1; isOnto 0 = true; invert 0 = ISE; spell A = 4; product 2 4 = 5; image 0 c 5 = 31; invert 0 = 1",
        "apply 1 1 = 6; length 6 = 59");
  }

  private static void growing() {
    String text = "Throws `IllegalArgumentException` if there is no such letter, or it is out of range";
    Edges.sentence(44, text, "map = 0; growth 0 #96 1 = IAE; growth 0 d 1 = IAE; growth 0 #64 1 = IAE; growth 0 D 1 = IAE",
        "growth 0 #0 0 = IAE; growth 0 #353 20 = IAE; growth 0 #65535 1 = IAE; growth 0 C 1 = 1");
    Edges.sentence(44, text, "map = 0; growth 0 a -1 = IAE; growth 0 a 21 = IAE; growth 0 A 21 = IAE",
        "growth 0 a most = IAE",
        "growth 0 a least = IAE; growth 0 c 256 = IAE");
    Edges.sentence(44, "- `times`: 0 to 20", "map = 0; spell bb = 0; spell - = 1; image 0 b 0 = 1; growth 0 b 0 = 1",
        "growth 0 b 1 = 2",
        "growth 0 b 20 = 1048576; growth 0 a 20 = 1; image 0 a 1 = 1; growth 0 a 0 = 1; growth 0 a 1 = 0",
        "growth 0 A 20 = 0");
    // Ten letters and 1 more 15 times over, and what is the very limit, or above it at the last, and falls to nothing then.
    Edges.sentence(44, "Returns how many, 1000000000000000 at most.", "map = 0; spell " + A10 + " = 0; image 0 a 0 = 1",
        "growth 0 a 14 = 100000000000000; growth 0 a 15 = 1000000000000000; growth 0 a 16 = 1000000000000000",
        "growth 0 A 20 = 1000000000000000; spell " + A10 + "b = 1; image 0 a 1 = 10; growth 0 a 14 = 111111111111111",
        "growth 0 a 15 = 1000000000000000; spell " + A10.substring(1) + "b = 2; image 0 a 2 = 11",
        "growth 0 a 15 = 231627523606480",
        "growth 0 a 16 = 1000000000000000");
    Edges.sentence(44, "Returns how many, 1000000000000000 at most.", SIXTY, "image 0 a 1 = 1",
        "growth 0 a 8 = 167961600000000",
        "growth 0 a 9 = 1000000000000000; growth 0 a 20 = 1000000000000000; spell b = 2; spell - = 3; often 15 type a",
        "often 15 type b",
        "word = 4; image 0 b 4 = 1; image 0 a 3 = 60; growth 0 b 10 = 1153300781250; growth 0 b 12 = 259492675781250",
        "growth 0 b 13 = 1000000000000000");
  }

  private static void tracks() {
    Edges.sentence(45, "Tells whether a map is a track.", "map = 0; isTrack 0 = true; spell - = 0; spell B = 1",
        "spell C = 2; spell A = 3",
        "image 0 a 1; image 0 b 2; image 0 c 3; isTrack 0 = true");
  }

  private static void determinants() {
    Edges.sentence(46, "Returns the determinant.", "map = 0; spell - = 0; image 0 a 0; determinant 0 = 0; image 0 b 0",
        "image 0 c 0",
        "determinant 0 = 0");
    for (String order : new String[] {"abc 1", "acb -1", "bac -1", "bca 1", "cab 1", "cba -1"}) {
      String[] parts = order.split(" ");
      StringBuilder script = new StringBuilder("map = 0; ");
      for (int i = 0; i < 3; i++) {
        String letters = String.valueOf(parts[0].charAt(i)).repeat(30);
        script.append("spell ").append(letters).append(" = ").append(2 * i).append("; power ").append(2 * i).append(" 2 = ")
            .append(2 * i + 1).append("; image 0 ").append("abc".charAt(i)).append(' ').append(2 * i + 1).append("; ");
      }
      Edges.sentence(46, "Returns the determinant.", script + "determinant 0 = " + 216000 * Integer.parseInt(parts[1]));
    }
  }
}
