/** Calls that take two numbers, with one number for both. */
final class SameEdges {
  private static final String ANOTHER = "- `other`: another one, or the same";

  private SameEdges() {}

  static void all() {
    words();
    groups();
    maps();
  }

  private static void words() {
    String three = "spell - = 0; spell C = 1; spell abbA = 2";
    Edges.sentence(7, ANOTHER, three, "compare 0 0 = 0; compare 1 1 = 0; compare 2 2 = 0; compare 3 3 = IOOBE");
    Edges.sentence(8, ANOTHER, three, "product 0 0 = 3; length 3 = 0; product 1 1 = 4; length 4 = 2; letter 4 1 = C",
        "product 2 2 = 5; length 5 = 6; letter 5 4 = b; letter 5 5 = A; length 2 = 4; product 6 6 = IOOBE");
    Edges.sentence(8, ANOTHER, "often 30 type b; word = 0; product 0 0 = 1; length 1 = 60; product 1 1 = ISE; length 0 = 30",
        "product 0 0 = 2; often 21 word = 23; product 0 0 = ISE");
    Edges.sentence(14, ANOTHER, three, "commute 0 0 = true; commute 1 1 = true; commute 2 2 = true; commute 3 3 = IOOBE");
    // The empty word is the first of those that leave a word as it is.
    Edges.sentence(15, "- `other`: the word that it becomes", three, "conjugator 0 0 = 3; length 3 = 0; conjugator 1 1 = 4",
        "length 4 = 0; conjugator 2 2 = 5; length 5 = 0; conjugator 6 6 = IOOBE");
    Edges.sentence(49, ANOTHER, three, "areOfOrbit 0 0 = true; areOfOrbit 1 1 = true; areOfOrbit 2 2 = true",
        "spell abAB = 3; areOfOrbit 3 3 = UOE; areOfOrbit 4 4 = IOOBE");
  }

  private static void groups() {
    // Of the empty word alone, of one word behind another one, and of all words.
    String three = "spell baaB = 0; group = 0; group = 1; generate 1 0 = 1; fill 0 = 2; points 1 = 3";
    Edges.sentence(28, ANOTHER, three, "meet 0 0 = 3; points 3 = 1; rank 3 = 0; meet 1 1 = 4; points 4 = 3; rank 4 = 1",
        "isWithin 1 4 = true; isWithin 4 1 = true; meet 2 2 = 5; points 5 = 1; rank 5 = 3; meet 6 6 = IOOBE");
    Edges.sentence(29, ANOTHER, three, "join 0 0 = 3; points 3 = 1; rank 3 = 0; join 1 1 = 4; points 4 = 3; rank 4 = 1",
        "isWithin 1 4 = true; isWithin 4 1 = true; join 2 2 = 5; points 5 = 1; rank 5 = 3; join 6 6 = IOOBE");
    // What is made of a group alone is a group of its own.
    Edges.sentence(29, ANOTHER, three, "meet 1 1 = 3; join 1 1 = 4; undo 3 = 0; undo 1 = 0; rank 4 = 1; points 4 = 3",
        "rank 3 = 0; undo 4 = 0; undo 4 = UOE; generate 1 0 = 1; rank 4 = 0");
    Edges.sentence(32, "- `other`: the other one, or the same", three,
        "isWithin 0 0 = true; isWithin 1 1 = true; isWithin 2 2 = true; isWithin 3 3 = IOOBE");
    Edges.sentence(33, ANOTHER, three,
        "areConjugate 0 0 = true; areConjugate 1 1 = true; areConjugate 2 2 = true; areConjugate 3 3 = IOOBE");
  }

  private static void maps() {
    Edges.sentence(40, "- `other`: the map that is done then", "map = 0; spell ab = 0; spell - = 1; spell abb = 2",
        "image 0 a 0 = 1; compose 0 0 = 1; image 1 a 1 = 3; image 0 a 0 = 2; image 0 b 1 = 1; compose 0 0 = 2",
        "image 2 a 2 = 2; image 2 b 2 = 0; compose 3 3 = IOOBE");
  }
}
