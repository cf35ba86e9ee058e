/** Promises 16 to 36. */
final class GroupEdges {
  private static final String A10 = "aaaaaaaaaa";
  private static final String A20 = A10 + A10;
  private static final String B10 = "bbbbbbbbbb";
  private static final String NO_GROUP = "Throws `IndexOutOfBoundsException` if there is no such group";
  private static final String NO_GROUP_OR_WORD = "Throws `IndexOutOfBoundsException` if there is no such group or word";
  private static final String NO_GROUP_EITHER = "Throws `IndexOutOfBoundsException` if there is no such group, for either";
  private static final String NO_ROOM_FOR_GROUP =
      "Throws `IllegalStateException` if there are 8 groups, or it would have too many points";
  /** Makes 0, a group of 40 points, of word 1, which is 40 letters a; word 0 is 20 of them. */
  private static final String FORTY = "spell " + A20 + " = 0; power 0 2 = 1; group = 0; generate 0 1 = 1; points 0 = 40";

  private GroupEdges() {}

  static void all() {
    making();
    missing();
    generating();
    undoing();
    points();
    indexes();
    bases();
    writing();
    full();
    meeting();
    joining();
    conjugating();
    filling();
    telling();
    counting();
  }

  private static void making() {
    Edges.sentence(16, "Makes a group of the empty word alone.",
        "group = 0; points 0 = 1; rank 0 = 0; spell - = 0; spell a = 1; contains 0 0 = true; contains 0 1 = false",
        "leads 0 1 = -1; undo 0 = UOE; basis 0 0 = NSEE; index 0 = NSEE; count 0 0 = 1; count 0 1 = 0; written 0 0 = 0");
    Edges.sentence(16, "Throws `IllegalStateException` if there are 8",
        "often 7 group = 6; group = 7; points 7 = 1; group = ISE; group = ISE; points 8 = IOOBE; points 0 = 1");
  }

  /** Each call for numbers on both sides of those that there are, of no group, of one and of all 8. */
  private static void missing() {
    String[] ofOne = {"undo 18", "points 19", "rank 20", "next 21 0 a", "index 24", "basis 25 0", "fill 31",
      "isMalnormal 34", "isNormal 35", "count 36 0"};
    for (String told : ofOne) {
      String[] parts = told.split(" ", 3);
      String rest = parts.length > 2 ? " " + parts[2] : "";
      noSuchGroup(Integer.parseInt(parts[1]), NO_GROUP, parts[0] + " G" + rest);
    }
    String[] ofWords = {"generate 17", "leads 22", "contains 23", "written 26", "writtenAt 27 0", "conjugate 30"};
    for (String told : ofWords) {
      String[] parts = told.split(" ", 3);
      String rest = parts.length > 2 ? " " + parts[2] : "";
      noSuchGroup(Integer.parseInt(parts[1]), NO_GROUP_OR_WORD, parts[0] + " G 0" + rest);
      noSuchWord(Integer.parseInt(parts[1]), parts[0] + " 0 W" + rest);
    }
    String[] ofTwo = {"meet 28", "join 29", "isWithin 32", "areConjugate 33"};
    for (String told : ofTwo) {
      String[] parts = told.split(" ");
      noSuchGroup(Integer.parseInt(parts[1]), NO_GROUP_EITHER, parts[0] + " G 0");
      noSuchGroup(Integer.parseInt(parts[1]), NO_GROUP_EITHER, parts[0] + " 0 G");
    }
  }

  private static void noSuchGroup(int promise, String text, String call) {
    StringBuilder script = new StringBuilder("spell a; ");
    for (String number : new String[] {"0", "-1", "most", "least"}) {
      script.append(call.replace("G", number)).append(" = IOOBE; ");
    }
    script.append("group = 0; generate 0 0 = 1; ");
    for (String number : new String[] {"1", "-1", "8", "most", "least"}) {
      script.append(call.replace("G", number)).append(" = IOOBE; ");
    }
    script.append("often 7 group = 7; ");
    for (String number : new String[] {"-1", "8", "9", "256", "most", "least"}) {
      script.append(call.replace("G", number)).append(" = IOOBE; ");
    }
    Edges.sentence(promise, text, script.append("points 7 = 1; points 0 = 1; rank 0 = 1").toString());
  }

  private static void noSuchWord(int promise, String call) {
    StringBuilder script = new StringBuilder("group = 0; ");
    for (String number : new String[] {"0", "-1", "most", "least"}) {
      script.append(call.replace("W", number)).append(" = IOOBE; ");
    }
    script.append("spell a = 0; generate 0 0 = 1; ");
    for (String number : new String[] {"1", "-1", "24", "most", "least"}) {
      script.append(call.replace("W", number)).append(" = IOOBE; ");
    }
    script.append("often 23 word = 23; ");
    for (String number : new String[] {"-1", "24", "25", "256", "most", "least"}) {
      script.append(call.replace("W", number)).append(" = IOOBE; ");
    }
    Edges.sentence(promise, NO_GROUP_OR_WORD, script.append("points 0 = 1; rank 0 = 1").toString());
  }

  private static void generating() {
    String text = "Throws `IllegalStateException` if it has 12 generators, or it would have too many points";
    Edges.sentence(17, text, "spell a = 0; spell b = 1; spell - = 2; group = 0; often 11 generate 0 0 = 1",
        "generate 0 1 = 2; generate 0 1 = ISE; generate 0 2 = ISE; generate 0 0 = ISE; rank 0 = 2; undo 0 = 11; rank 0 = 1",
        "generate 0 2 = 1; generate 0 2 = ISE; undo 0 = 11");
    // The empty word is a generator like another one.
    Edges.sentence(17, text, "spell - = 0; group = 0; often 12 generate 0 0 = 0; generate 0 0 = ISE; points 0 = 1",
        "group = 1; generate 1 0 = 0; undo 1 = 0; undo 1 = UOE; undo 0 = 11");
    Edges.sentence(17, text, FORTY, "spell a = 2; product 1 2 = 3; group = 1; generate 1 3 = ISE; points 1 = 1; rank 1 = 0",
        "spell bb = 4; generate 0 4 = ISE; points 0 = 40; rank 0 = 1; spell b = 5; generate 0 5 = 2; points 0 = 40",
        "undo 0 = 1; rank 0 = 1");
    // What folds to 40 points fits, however many letters it has: 41 letters a beside 40, 60 beside them, and 60 alone.
    Edges.sentence(17, text, FORTY, "spell a = 2; product 1 2 = 3; generate 0 3 = 1; points 0 = 1; undo 0 = 1",
        "points 0 = 40",
        "product 1 0 = 4; generate 0 4 = 1; points 0 = 20; undo 0 = 1; points 0 = 40; undo 0 = 0; points 0 = 1");
    // A way of 20 to a loop of 20 is 40 points of 60 letters; one of 19 to a loop of 22 is 41.
    Edges.sentence(17, text, "spell " + A20 + " = 0; often 20 type b; word = 1; inverse 1 = 2; product 1 0 = 3",
        "product 3 2 = 4; length 4 = 60; group = 0; generate 0 4 = 1; points 0 = 40; often 22 type a; word = 5",
        "often 19 type b; word = 6; inverse 6 = 7; product 6 5 = 8; product 8 7 = 9; length 9 = 60; group = 1",
        "generate 1 9 = ISE; points 1 = 1; undo 1 = UOE");
  }

  private static void undoing() {
    Edges.sentence(18, "Throws `UnsupportedOperationException` if it has none",
        "group = 0; undo 0 = UOE; spell ab = 0; generate 0 0 = 1; undo 0 = 0; points 0 = 1; rank 0 = 0; undo 0 = UOE",
        "fill 0 = 1; undo 1 = 2; undo 1 = 1; undo 1 = 0; undo 1 = UOE; meet 0 0 = 2; undo 2 = UOE; join 0 0 = 3",
        "undo 3 = UOE",
        "conjugate 0 0 = 4; undo 4 = UOE");
    Edges.sentence(18, "Returns how many are left.",
        "spell aa = 0; spell b = 1; group = 0; often 11 generate 0 0 = 1; generate 0 1 = 2; undo 0 = 11; rank 0 = 1",
        "undo 0 = 10; rank 0 = 1; often 9 undo 0 = 1; rank 0 = 1; points 0 = 2; undo 0 = 0; rank 0 = 0; points 0 = 1");
  }

  private static void points() {
    Edges.sentence(19, "Returns how many.", "group = 0; points 0 = 1; spell a = 0; generate 0 0; points 0 = 1",
        "spell " + A20 + " = 1; power 1 2 = 2; group = 1; generate 1 2; points 1 = 40; undo 1; points 1 = 1");
    Edges.sentence(20, "Returns the rank.", "group = 0; rank 0 = 0; fill 0 = 1; rank 1 = 3; spell aa = 0; generate 0 0",
        "rank 0 = 1; fill 0 = 2; rank 2 = 5; rank 1 = 3");
    Edges.sentence(20, "Returns the rank.", FORTY, "fill 0 = 1; rank 1 = 81; points 1 = 40");
    String text = "Throws `IllegalArgumentException` if there is no such point or letter";
    Edges.sentence(21, text, "group = 0; next 0 0 a = -1; next 0 1 a = IAE; next 0 -1 a = IAE; next 0 0 d = IAE",
        "next 0 0 #96 = IAE; next 0 0 #64 = IAE; next 0 0 D = IAE; next 0 0 #0 = IAE; next 0 0 #353 = IAE");
    Edges.sentence(21, text, FORTY, "next 0 39 a = 38; next 0 40 a = IAE; next 0 -1 A = IAE; next 0 41 a = IAE",
        "next 0 most a = IAE; next 0 least a = IAE; next 0 39 x = IAE; next 0 39 #65535 = IAE; next 0 256 a = IAE");
    // Points taken away by undo are no points any more.
    Edges.sentence(21, text, "spell a = 0; spell aaa = 1; group = 0; generate 0 1; next 0 2 a = 0; generate 0 0",
        "next 0 1 a = IAE",
        "undo 0 = 1; next 0 2 A = 1; next 0 3 A = IAE; undo 0 = 0; next 0 0 a = -1; next 0 1 a = IAE");
    Edges.sentence(21, "Returns the point, -1 for none.", "spell aa = 0; group = 0; generate 0 0; next 0 0 a = 1",
        "next 0 0 A = 1",
        "next 0 1 a = 0; next 0 1 A = 0; next 0 0 b = -1; next 0 0 B = -1; next 0 1 c = -1; next 0 1 C = -1");
    Edges.sentence(22, "Returns the point, -1 if it does not.", "spell - = 0; spell ab = 1; spell B = 2; spell aab = 3",
        "spell ababA = 4; group = 0; leads 0 0 = 0; leads 0 1 = -1; generate 0 1; leads 0 0 = 0; leads 0 1 = 0",
        "leads 0 2 = 1",
        "leads 0 3 = -1; leads 0 4 = -1; product 1 2 = 5; leads 0 5 = 1");
    Edges.sentence(23, "Returns whether it is.", "spell - = 0; spell ab = 1; spell a = 2; group = 0; contains 0 0 = true",
        "contains 0 1 = false; generate 0 1; contains 0 0 = true; contains 0 1 = true; contains 0 2 = false",
        "inverse 1 = 3; contains 0 3 = true; fill 0 = 1; contains 1 2 = false; contains 1 0 = true; undo 0 = 0",
        "contains 0 1 = false");
  }

  private static void indexes() {
    String text = "Throws `NoSuchElementException` if there is none";
    Edges.sentence(24, text, "group = 0; index 0 = NSEE; fill 0 = 1; index 1 = 1; undo 1 = 2; index 1 = NSEE");
    // Of aa, b, c and abA one letter is missing, by c at point 1; with it the index is 2.
    Edges.sentence(24, text, "spell aa = 0; spell b = 1; spell c = 2; spell abA = 3; spell acA = 4; group = 0",
        "generate 0 0",
        "generate 0 1; generate 0 2; generate 0 3 = 4; index 0 = NSEE; generate 0 4 = 5; index 0 = 2; undo 0",
        "index 0 = NSEE");
    Edges.sentence(24, text, FORTY, "index 0 = NSEE; fill 0 = 1; index 1 = 40; undo 1 = 80; index 1 = NSEE");
  }

  private static void bases() {
    String none = "Throws `NoSuchElementException` if there is none";
    String text = "Throws `IllegalStateException` if there are 24 words, or it would be too long";
    Edges.sentence(25, none, "group = 0; basis 0 0 = NSEE; basis 0 -1 = NSEE; spell a = 0; generate 0 0; basis 0 0 = 1",
        "basis 0 1 = NSEE; basis 0 -1 = NSEE; basis 0 most = NSEE; basis 0 least = NSEE; fill 0 = 1; basis 1 2 = 2",
        "letter 2 0 = c; basis 1 3 = NSEE; undo 0 = 0; basis 0 0 = NSEE");
    Edges.sentence(25, none, FORTY, "fill 0 = 1; basis 1 80 = 2; basis 1 81 = NSEE; basis 1 82 = NSEE");
    Edges.sentence(25, "- `index`: the place in the basis, from 0", "spell aa = 0; spell b = 1; group = 0; generate 0 0",
        "generate 0 1; basis 0 -1 = NSEE; basis 0 0 = 2; letter 2 0 = b; basis 0 1 = 3; compare 3 0 = 0; basis 0 2 = NSEE");
    Edges.sentence(25, text, "spell a = 0; group = 0; generate 0 0; often 22 word = 22; basis 0 0 = 23; basis 0 0 = ISE");
    // By a way of 20 letters to a loop of 20 there are 60 letters; of 21 to one of 19 there are 61.
    Edges.sentence(25, text, "spell " + A20 + " = 0; spell " + B10 + " = 1; product 1 1 = 2; group = 0; generate 0 0",
        "conjugate 0 2 = 1; points 1 = 40; basis 1 0 = 3; length 3 = 60; letter 3 0 = b; letter 3 20 = a; letter 3 59 = B");
    Edges.sentence(25, text, "spell " + A20.substring(1) + " = 0; spell b" + B10 + " = 1; spell " + B10 + " = 2",
        "product 1 2 = 3",
        "length 3 = 21; group = 0; generate 0 0 = 1; points 0 = 19; conjugate 0 3 = 1; points 1 = 40; basis 1 0 = ISE",
        "basis 1 1 = NSEE; length 4 = IOOBE; basis 0 0 = 4");
  }

  private static void writing() {
    String none = "Throws `NoSuchElementException` if it is not in the group";
    Edges.sentence(26, none, "spell - = 0; spell aa = 1; spell aaa = 2; spell b = 3; group = 0; written 0 0 = 0",
        "written 0 1 = NSEE",
        "generate 0 1; written 0 0 = 0; written 0 1 = 1; written 0 2 = NSEE; written 0 3 = NSEE; undo 0",
        "written 0 1 = NSEE");
    Edges.sentence(26, "Returns how many words of the basis a word is written by.",
        "group = 0; fill 0 = 1; spell - = 0; written 1 0 = 0; often 30 type a; word = 1; product 1 1 = 2",
        "written 1 2 = 60");
    String orNone = "Throws `NoSuchElementException` if it is not in the group, or there is none";
    Edges.sentence(27, orNone, "spell - = 0; spell aa = 1; spell a = 2; group = 0; writtenAt 0 0 0 = NSEE; generate 0 1",
        "writtenAt 0 0 0 = NSEE; writtenAt 0 0 -1 = NSEE; writtenAt 0 2 0 = NSEE; writtenAt 0 2 -1 = NSEE",
        "writtenAt 0 1 0 = 1; writtenAt 0 1 1 = NSEE; writtenAt 0 1 -1 = NSEE; writtenAt 0 1 most = NSEE",
        "writtenAt 0 1 least = NSEE");
    Edges.sentence(27, "- `index`: the place, from 0", "spell aabAA = 0; spell aa = 1; spell b = 2; group = 0",
        "generate 0 1",
        "generate 0 2; writtenAt 0 0 -1 = NSEE; writtenAt 0 0 0 = 2; writtenAt 0 0 1 = 1; writtenAt 0 0 2 = -2",
        "writtenAt 0 0 3 = NSEE");
    // The last of 81 edges outside the tree, by c from the last point to itself.
    Edges.sentence(27, "Returns a number by which a word is written.", FORTY, "fill 0 = 1; basis 1 80 = 2; written 1 2 = 1",
        "writtenAt 1 2 0 = 81; inverse 2 = 3; writtenAt 1 3 0 = -81; writtenAt 1 3 1 = NSEE");
  }

  private static void full() {
    Edges.sentence(28, NO_ROOM_FOR_GROUP, "spell a = 0; often 7 group = 6; generate 0 0; meet 0 0 = 7; meet 0 0 = ISE",
        "meet 1 2 = ISE");
    Edges.sentence(29, NO_ROOM_FOR_GROUP, "spell a = 0; often 7 group = 6; generate 0 0; join 0 1 = 7; join 0 0 = ISE",
        "join 1 2 = ISE");
    Edges.sentence(30, NO_ROOM_FOR_GROUP, "spell a = 0; often 7 group = 6; generate 0 0; conjugate 0 0 = 7",
        "conjugate 0 0 = ISE",
        "conjugate 1 0 = ISE");
    Edges.sentence(31, "Throws `IllegalStateException` if there are 8 groups",
        "often 7 group = 6; fill 0 = 7; fill 0 = ISE; fill 7 = ISE; rank 7 = 3");
  }

  private static void meeting() {
    // Loops of 5 and 8 letters meet in one of 40; behind a b each, or of 6 and 7, there would be 41 and 42 points.
    Edges.sentence(28, NO_ROOM_FOR_GROUP, "spell aaaaa = 0; spell aaaaaaaa = 1; spell b = 2; group = 0; group = 1",
        "generate 0 0",
        "generate 1 1; meet 0 1 = 2; points 2 = 40; rank 2 = 1; meet 2 1 = 3; points 3 = 40; conjugate 0 2 = 4",
        "conjugate 1 2 = 5",
        "meet 4 5 = ISE; points 6 = IOOBE; meet 5 4 = ISE; meet 4 4 = 6; points 6 = 6");
    Edges.sentence(28, NO_ROOM_FOR_GROUP, "spell aaaaaa = 0; spell aaaaaaa = 1; group = 0; group = 1; generate 0 0",
        "generate 1 1",
        "meet 0 1 = ISE; meet 1 0 = ISE; points 2 = IOOBE; generate 0 1 = 1; meet 0 1 = 2; points 2 = 7");
    // As many pairs of points as there can be, 1600, and none with one edge alone.
    Edges.sentence(28, NO_ROOM_FOR_GROUP, FORTY, "spell " + B10 + " = 2; power 2 4 = 3; group = 1; generate 1 3",
        "fill 0 = 2; fill 1 = 3",
        "meet 2 3 = ISE; meet 3 2 = ISE; map = 0; isOnto 0 = true; points 4 = IOOBE; join 2 3 = 4; rank 4 = 3",
        "meet 2 2 = 5; points 5 = 40",
        "spell a = 4; group = 6; generate 6 4; meet 3 6 = 7; points 7 = 1; rank 7 = 1");
    Edges.sentence(28, "Makes the meet of two groups.", "group = 0; meet 0 0 = 1; points 1 = 1; rank 1 = 0; fill 0 = 2",
        "meet 2 2 = 3",
        "rank 3 = 3; spell ab = 0; generate 0 0; meet 0 2 = 4; points 4 = 2; rank 4 = 1; contains 4 0 = true; meet 1 0 = 5",
        "rank 5 = 0; points 5 = 1");
  }

  private static void joining() {
    Edges.sentence(29, NO_ROOM_FOR_GROUP, FORTY, "spell bb = 2; spell b = 3; group = 1; generate 1 2; join 0 1 = ISE",
        "join 1 0 = ISE",
        "points 2 = IOOBE; generate 1 3; join 0 1 = 2; points 2 = 40; rank 2 = 2; join 1 0 = 3; points 3 = 40");
    // 40 and 39 points fold to one.
    Edges.sentence(29, NO_ROOM_FOR_GROUP, FORTY, "spell " + A20.substring(1) + " = 2; product 0 2 = 3; group = 1",
        "generate 1 3 = 1",
        "points 1 = 39; join 0 1 = 2; points 2 = 1; join 0 0 = 3; points 3 = 40");
    Edges.sentence(29, "Makes the join of two groups.", "group = 0; join 0 0 = 1; points 1 = 1; rank 1 = 0; fill 0 = 2",
        "join 0 2 = 3",
        "rank 3 = 3; join 2 1 = 4; rank 4 = 3; spell ab = 0; generate 0 0; join 0 1 = 5; points 5 = 2; rank 5 = 1");
  }

  private static void conjugating() {
    Edges.sentence(30, NO_ROOM_FOR_GROUP, FORTY, "spell b = 2; conjugate 0 2 = ISE; points 1 = IOOBE; spell aaaaa = 3",
        "conjugate 0 3 = 1",
        "points 1 = 40; product 1 0 = 4; conjugate 0 4 = 2; points 2 = 40; group = 3; generate 3 0; conjugate 3 2 = 4",
        "points 4 = 21");
    // One point and a way of 39 letters are 40 points; one of 40 is too much, but none if nothing is at its end.
    Edges.sentence(30, NO_ROOM_FOR_GROUP, "spell " + B10 + " = 0; power 0 4 = 1; spell B = 2; product 1 2 = 3",
        "length 3 = 39",
        "spell a = 4; group = 0; generate 0 4; conjugate 0 3 = 1; points 1 = 40; conjugate 0 1 = ISE; power 0 6 = 5",
        "conjugate 0 5 = ISE; group = 2; conjugate 2 5 = 3; points 3 = 1; spell b = 6; conjugate 1 6 = ISE",
        "conjugate 1 2 = 4",
        "points 4 = 39; inverse 3 = 7; conjugate 1 7 = 5; points 5 = 1");
    Edges.sentence(30, "Makes a group conjugated by a word.", "spell - = 0; spell a = 1; spell ba = 2; group = 0",
        "conjugate 0 0 = 1",
        "points 1 = 1; generate 0 1; conjugate 0 0 = 2; contains 2 1 = true; points 2 = 1; conjugate 0 1 = 3",
        "contains 3 1 = true",
        "conjugate 0 2 = 4; points 4 = 2; contains 4 1 = false; fill 0 = 5; conjugate 5 2 = 6; points 6 = 1; rank 6 = 3");
  }

  private static void filling() {
    Edges.sentence(31, "Makes a group by filling another one.", "group = 0; fill 0 = 1; index 1 = 1; rank 1 = 3",
        "fill 1 = 2",
        "index 2 = 1; rank 2 = 3; spell aa = 0; generate 0 0; fill 0 = 3; index 3 = 2; fill 3 = 4; index 4 = 2; rank 4 = 5",
        "isWithin 3 4 = true; isWithin 4 3 = true; rank 0 = 1");
    Edges.sentence(31, "Makes a group by filling another one.", FORTY, "fill 0 = 1; points 1 = 40; next 1 39 b = 39",
        "next 1 0 c = 0",
        "fill 1 = 2; points 2 = 40; rank 2 = 81");
  }

  private static void telling() {
    Edges.sentence(32, "Tells whether each word of a group is in another one.", "group = 0; group = 1; isWithin 0 0 = true",
        "isWithin 0 1 = true; fill 0 = 2; isWithin 0 2 = true; isWithin 2 0 = false; isWithin 2 2 = true; spell abA = 0",
        "spell a = 1; generate 1 0; isWithin 0 1 = true; isWithin 1 0 = false; isWithin 1 2 = true; group = 3",
        "generate 3 1",
        "isWithin 1 3 = false; isWithin 3 1 = false");
    // Of 40 points and 39, unlike only where they end.
    Edges.sentence(32, "Tells whether each word of a group is in another one.", FORTY, "spell A = 2; product 1 2 = 3",
        "spell b = 4",
        "group = 1; generate 1 3; points 1 = 39; isWithin 0 1 = false; isWithin 1 0 = false; generate 0 4; generate 1 4",
        "isWithin 0 1 = false; isWithin 1 0 = false; isWithin 0 0 = true; isWithin 1 1 = true");
    Edges.sentence(33, "Tells whether two groups are conjugate.", "group = 0; group = 1; areConjugate 0 1 = true",
        "areConjugate 0 0 = true",
        "fill 0 = 2; areConjugate 0 2 = false; areConjugate 2 0 = false; areConjugate 2 2 = true; spell b = 0",
        "spell abA = 1",
        "generate 0 0; generate 1 1; areConjugate 0 1 = true; areConjugate 1 0 = true; areConjugate 0 2 = false");
    // Forty points, of which any may be the base.
    Edges.sentence(33, "Tells whether two groups are conjugate.", FORTY, "spell aaaaa = 2; conjugate 0 2 = 1",
        "areConjugate 0 1 = true",
        "spell b = 3; generate 0 3; conjugate 0 2 = 2; areConjugate 0 2 = true; areConjugate 2 0 = true",
        "areConjugate 0 1 = false",
        "isWithin 0 2 = false");
    Edges.sentence(33, "Tells whether two groups are conjugate.", FORTY, "group = 1; group = 2; areConjugate 1 2 = true",
        "areConjugate 0 1 = false; areConjugate 1 0 = false; areConjugate 2 2 = true; undo 0; areConjugate 0 1 = true");
    for (char letter : "abc".toCharArray()) {
      Edges.sentence(34, "Tells whether a group is malnormal.", "spell " + letter + letter + " = 0",
          "spell " + letter + " = 1",
          "group = 0; isMalnormal 0 = true; generate 0 0; isMalnormal 0 = false; generate 0 1; isMalnormal 0 = true");
    }
    Edges.sentence(34, "Tells whether a group is malnormal.", "group = 0; isMalnormal 0 = true; fill 0 = 1",
        "isMalnormal 1 = true",
        "spell a = 0; spell aa = 1; spell bab = 2; generate 0 0; isMalnormal 0 = true; group = 2; generate 2 1",
        "isMalnormal 2 = false",
        "group = 3; generate 3 2; isMalnormal 3 = true; generate 3 1; isMalnormal 3 = false");
    Edges.sentence(34, "Tells whether a group is malnormal.", FORTY, "isMalnormal 0 = false; fill 0 = 1",
        "isMalnormal 1 = false",
        "spell " + B10 + " = 2; product 2 2 = 3; product 0 3 = 4; group = 2; generate 2 4 = 1; points 2 = 40",
        "isMalnormal 2 = true");
    Edges.sentence(35, "Tells whether a group is normal.", "group = 0; isNormal 0 = true; fill 0 = 1; isNormal 1 = true",
        "spell a = 0",
        "generate 0 0; isNormal 0 = false; undo 0; isNormal 0 = true; undo 1 = 2; isNormal 1 = false");
    Edges.sentence(35, "Tells whether a group is normal.", FORTY, "isNormal 0 = false; fill 0 = 1; isNormal 1 = true",
        "undo 1 = 80",
        "isNormal 1 = false");
  }

  private static void counting() {
    String text = "Throws `IllegalArgumentException` if it is out of range";
    Edges.sentence(36, text, "group = 0; count 0 -1 = IAE; count 0 21 = IAE; count 0 most = IAE; count 0 least = IAE",
        "count 0 256 = IAE",
        "fill 0 = 1; count 1 -1 = IAE; count 1 21 = IAE");
    Edges.sentence(36, "- `length`: 0 to 20", "group = 0; count 0 0 = 1; count 0 1 = 0; count 0 20 = 0; fill 0 = 1",
        "count 1 0 = 1",
        "count 1 1 = 6; count 1 20 = 114440917968750; spell aaaaa = 0; generate 0 0; count 0 0 = 1; count 0 4 = 0",
        "count 0 5 = 2",
        "count 0 20 = 2; count 0 19 = 0");
  }
}
