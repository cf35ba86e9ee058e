/** The boundary cases that "What it is" and "Terms" name. */
final class TermEdges {
  private static final String A20 = "aaaaaaaaaaaaaaaaaaaa";

  private TermEdges() {}

  static void all() {
    calls();
    words();
    emptyWord();
    folding();
    points();
    generators();
    graphsOfTwo();
    filled();
    maps();
    tracks();
    moves();
    turnedRound();
    exceptions();
  }

  private static void calls() {
    // The last of 512 calls is answered like the first.
    Edges.sentence(Edges.TERMS, "An object is used for at most 512 calls after it has been made",
        "spell abAB = 0; group = 0; generate 0 0 = 1; map = 0; often 250 isPrimitive 0 = false",
        "often 250 growth 0 a 20 = 1",
        "contains 0 0 = true; shorten 0 = 1; isSound = true; length 1 = 4");
    Edges.sentence(Edges.TERMS, "An object is used for at most 512 calls after it has been made",
        "spell a = 0; group = 0; generate 0 0 = 1; often 500 wipe = 0; rank 0 = 1; undo 0 = 0; undo 0 = UOE");
  }

  private static void words() {
    Edges.sentence(Edges.TERMS, "A word is a row of letters in which none stands beside its inverse; whatever is made is "
        + "cancelled until it is one.",
        "spell abcCBA = 0; length 0 = 0; spell aAaAa = 1; length 1 = 1; spell cabBbBAb = 2; length 2 = 2; letter 2 1 = b",
        "spell AB = 3",
        "spell ba = 4; product 3 4 = 5; length 5 = 0; product 4 3 = 6; length 6 = 0; spell bcB = 7; power 7 6 = 8",
        "length 8 = 8");
    Edges.sentence(Edges.TERMS, "At most 24 words are numbered from 0, of at most 60 letters each; a call that would make "
        + "a longer one, or a further one, is refused.",
        "spell a = 0; spell b = 1; group = 0; generate 0 0; map = 0; often 21 word = 22; inverse 0 = 23; word = ISE",
        "product 0 0 = ISE",
        "inverse 0 = ISE; power 0 0 = ISE; conjugator 0 0 = ISE; basis 0 0 = ISE; apply 0 0 = ISE; shorten 0 = ISE",
        "length 23 = 1");
    Edges.sentence(Edges.TERMS, "At most 24 words are numbered from 0, of at most 60 letters each; a call that would make "
        + "a longer one, or a further one, is refused.",
        "often 30 type c; word = 0; product 0 0 = 1; spell b = 2; product 1 2 = ISE; power 1 -2 = ISE; map = 0",
        "image 0 b 1 = 1; spell bc = 3",
        "apply 0 3 = ISE; group = 0; generate 0 2; conjugate 0 0 = 1; basis 1 0 = ISE; apply 0 2 = 4; length 4 = 60",
        "length 5 = IOOBE");
    Edges.sentence(Edges.TERMS, "A shorter word is ahead of a longer one, of like length the one whose first unlike "
        + "letter is ahead.",
        "often 30 type a; word = 0; product 0 0 = 1; spell C = 2; compare 1 2 = 1; compare 2 1 = -1; spell A = 3",
        "product 1 3 = 4",
        "spell b = 5; product 4 5 = 6; compare 1 6 = -1; compare 6 1 = 1; compare 4 6 = -1; product 5 4 = 7",
        "compare 6 7 = -1");
    Edges.sentence(Edges.TERMS, "The core of a word is what is left as often as its first and last letter are inverses "
        + "and both are taken away.",
        "spell - = 0; core 0 = 0; spell A = 1; core 1 = 1; spell abcBA = 2; core 2 = 1; spell abcbA = 3; core 3 = 3",
        "spell aa = 4; core 4 = 2");
  }

  private static void emptyWord() {
    Edges.sentence(Edges.TERMS, "The empty word may be made.", "word = 0; product 0 0 = 1; inverse 0 = 2; power 0 6 = 3",
        "conjugator 0 0 = 4",
        "map = 0; apply 0 0 = 5; shorten 0 = 6; spell aA = 7; spell a = 8; power 8 0 = 9; image 0 a 0 = 1; apply 0 8 = 10",
        "length 10 = 0",
        "inverse 8 = 11; product 8 11 = 12; meanLength = " + 2.0 / 13.0);
    Edges.sentence(Edges.TERMS, "The empty word may be made.", "word = 0; group = 0; generate 0 0 = 0; points 0 = 1",
        "conjugate 0 0 = 1; leads 1 0 = 0",
        "core 0 = 0; exponent 0 = NSEE; sum 0 a = 0; commute 0 0 = true; isPrimitive 0 = false; areOfOrbit 0 0 = true",
        "written 0 0 = 0");
  }

  private static void folding() {
    Edges.sentence(Edges.TERMS, "then points other than the base that have one edge alone are taken away with it",
        "spell baB = 0; spell bacAB = 1; spell b = 2; group = 0; generate 0 0; points 0 = 2; next 0 0 b = 1",
        "next 0 0 a = -1",
        "group = 1; generate 1 1; points 1 = 3; next 1 0 b = 1; next 1 1 a = 2; next 1 2 c = 2; group = 2; generate 2 2",
        "points 2 = 1");
    // A meet takes ways away that lead nowhere, one point after the other, and those off a loop as well.
    Edges.sentence(Edges.TERMS, "then points other than the base that have one edge alone are taken away with it",
        "spell aaabc = 0; spell aaabb = 1; spell ca = 2; group = 0; group = 1; generate 0 0; generate 1 1; meet 0 1 = 2",
        "points 2 = 1",
        "generate 0 2; generate 1 2; meet 0 1 = 3; points 3 = 2; rank 3 = 1; contains 3 2 = true");
    Edges.sentence(Edges.TERMS, "as long as two edges by one letter begin, or end, at one point, their other points "
        + "become one point, and they one edge",
        "spell aaaaaaaa = 0; spell aaaaaaaaaaaaa = 1; group = 0; generate 0 0 = 1; generate 0 1 = 1; points 0 = 1",
        "spell abcbcA = 2",
        "group = 1; generate 1 2; spell abcA = 3; generate 1 3 = 1; points 1 = 3; spell abA = 4; generate 1 4 = 2",
        "points 1 = 2");
    Edges.sentence(Edges.TERMS, "So each letter leads from a point to one point at most.",
        "spell ab = 0; spell aab = 1; group = 0; generate 0 0; generate 0 1 = 2; points 0 = 1; spell cca = 2",
        "generate 0 2 = 3; points 0 = 2",
        "next 0 0 c = 1; next 0 1 c = 0; next 0 1 a = -1");
  }

  private static void points() {
    String text = "A graph has at most 40 points, counted as all is folded and taken away; a call that would make more is "
        + "refused.";
    String forty = "spell " + A20 + " = 0; power 0 2 = 1; spell b = 2; group = 0; generate 0 1; points 0 = 40";
    Edges.sentence(Edges.TERMS, text, forty, "power 0 3 = 3; group = 1; generate 1 3 = ISE; conjugate 0 2 = ISE",
        "spell bb = 4; generate 1 4",
        "join 0 1 = ISE; spell aaa = 5; group = 2; generate 2 5; meet 0 2 = ISE; points 3 = IOOBE; points 1 = 2",
        "points 0 = 40");
    Edges.sentence(Edges.TERMS, text, forty, "power 0 3 = 3; generate 0 3 = 1; points 0 = 20; undo 0 = 1",
        "conjugate 0 0 = 1; points 1 = 40",
        "join 0 1 = 2; points 2 = 40; meet 0 1 = 3; points 3 = 40; fill 0 = 4; points 4 = 40; generate 0 2 = 2",
        "points 0 = 40");
    Edges.sentence(Edges.TERMS, "At most 8 groups of words are numbered from 0", "spell a = 0; often 8 group = 7",
        "generate 7 0 = 1",
        "group = ISE; meet 0 7 = ISE; join 0 7 = ISE; conjugate 7 0 = ISE; fill 7 = ISE; points 8 = IOOBE; points 7 = 1");
    Edges.sentence(Edges.TERMS, "The rank of a group is the number of edges less that of points and 1.",
        "group = 0; rank 0 = 0; spell abcabc = 0; generate 0 0 = 1; spell baaaB = 1; generate 0 1 = 2; fill 0 = 1",
        "points 1 = 9; rank 1 = 19");
    Edges.sentence(Edges.TERMS, "The index of a group is the number of points, if each letter leads from each point "
        + "to one; otherwise there is none.",
        "group = 0; index 0 = NSEE; spell a = 0; spell b = 1; spell c = 2; generate 0 0; index 0 = NSEE; generate 0 1",
        "index 0 = NSEE",
        "generate 0 2; index 0 = 1; group = 1; spell aa = 3; generate 1 3; fill 1 = 2; index 2 = 2; index 1 = NSEE");
  }

  private static void generators() {
    String text = "From groups others are made, whose generators are the basis then, also if those are more than 12, to "
        + "which none can be added.";
    // Filled, six points have 13; only as 11 are left one can be added.
    Edges.sentence(Edges.TERMS, text, "spell aaaaaa = 0; spell b = 1; group = 0; generate 0 0; fill 0 = 1; rank 1 = 13",
        "generate 1 1 = ISE",
        "meet 1 1 = 2; generate 2 1 = ISE; join 1 1 = 3; generate 3 0 = ISE; conjugate 1 0 = 4; generate 4 1 = ISE",
        "undo 4 = 12",
        "generate 4 1 = ISE; undo 4 = 11; generate 4 1 = 11; generate 4 1 = ISE; undo 4 = 11; undo 4 = 10");
    // Of six points with one edge less than all there are 12, of five with all there are 11.
    Edges.sentence(Edges.TERMS, text, "spell aaaaaa = 0; group = 0; generate 0 0; fill 0 = 1; undo 1 = 12; join 1 0 = 2",
        "rank 2 = 12",
        "generate 2 0 = ISE; undo 2 = 11; generate 2 0 = 11; generate 2 0 = ISE; undo 2 = 11");
    Edges.sentence(Edges.TERMS, text, "spell aaaaa = 0; spell b = 1; group = 0; generate 0 0; fill 0 = 1; rank 1 = 11",
        "generate 1 1 = 11",
        "generate 1 1 = ISE; undo 1 = 11; often 11 undo 1 = 0; undo 1 = UOE; points 1 = 1");
    // What is undone counts no more, and what is added counts beside the basis.
    Edges.sentence(Edges.TERMS, text, "spell aaaaa = 0; spell bb = 1; group = 0; generate 0 0; fill 0 = 1; undo 1 = 10",
        "join 1 1 = 2; undo 2 = 9",
        "conjugate 0 1 = 3; undo 3 = 0; undo 3 = UOE; generate 3 0 = 1; undo 0 = 0; fill 0 = 4; often 9 generate 4 0 = 3",
        "generate 4 0 = ISE",
        "often 12 undo 4 = 0; undo 4 = UOE");
  }

  private static void graphsOfTwo() {
    Edges.sentence(Edges.TERMS, "The meet has the words that are in both", "spell a = 0; spell aa = 1; spell b = 2",
        "group = 0; group = 1; group = 2",
        "generate 0 1; generate 1 0; generate 2 2; meet 0 1 = 3; points 3 = 2; contains 3 1 = true; contains 3 0 = false",
        "meet 1 2 = 4",
        "rank 4 = 0; points 4 = 1; meet 0 0 = 5; points 5 = 2");
    Edges.sentence(Edges.TERMS, "a group is malnormal if conjugated by a word outside it has with it only the empty word "
        + "in both, and normal if conjugated by each word it is itself",
        "group = 0; isMalnormal 0 = true; isNormal 0 = true; fill 0 = 1; isMalnormal 1 = true",
        "isNormal 1 = true; spell aa = 0; generate 0 0; isMalnormal 0 = false; isNormal 0 = false; fill 0 = 2",
        "isMalnormal 2 = false",
        "isNormal 2 = true; spell bab = 1; group = 3; generate 3 1; isMalnormal 3 = true; isNormal 3 = false");
    Edges.sentence(Edges.TERMS, "Two groups are conjugate if one is the other one conjugated by some word",
        "group = 0; group = 1; areConjugate 0 1 = true; spell ab = 0; spell ba = 1; spell BA = 2; generate 0 0",
        "areConjugate 0 1 = false",
        "generate 1 1; areConjugate 0 1 = true; group = 2; generate 2 2; areConjugate 0 2 = true; isWithin 0 2 = true");
  }

  private static void filled() {
    String text = "To fill a group adds, letter by letter, a, b and c, for each point, by their numbers, from which that "
        + "letter does not lead, an edge by it to the lowest point to which it does not lead yet.";
    Edges.sentence(Edges.TERMS, text, "group = 0; fill 0 = 1; next 1 0 a = 0; next 1 0 b = 0; next 1 0 c = 0; fill 1 = 2",
        "rank 2 = 3; points 2 = 1");
    // To the way by a from 0 to 1 to 2 and the edge by b back from there come a from 2 to 0, b from 0 to 1 and from 1 to
    // 2, and loops by c.
    Edges.sentence(Edges.TERMS, text, "spell aab = 0; group = 0; generate 0 0; next 0 0 a = 1; next 0 0 B = 2",
        "next 0 1 a = 2; fill 0 = 1",
        "next 1 0 a = 1; next 1 1 a = 2; next 1 2 a = 0; next 1 0 b = 1; next 1 1 b = 2; next 1 2 b = 0; next 1 0 c = 0",
        "next 1 1 c = 1",
        "next 1 2 c = 2");
  }

  private static void maps() {
    Edges.sentence(Edges.TERMS, "At most 6 maps are numbered from 0, each with a word for each small letter as its image, "
        + "the letter itself at first.",
        "often 6 map = 5; map = ISE; compose 0 5 = ISE; invert 5 = ISE; spell abc = 0; fixes 5 0 = true; image 5 a 0 = 1",
        "image 5 b 0 = 1",
        "image 5 c 0 = 1; image 5 c 0 = 3; determinant 6 = IOOBE");
    Edges.sentence(Edges.TERMS, "A map is onto if its images make the group of all words; then it has an inverse.",
        "map = 0; isOnto 0 = true; invert 0 = 1; isOnto 1 = true; spell - = 0; image 0 c 0 = 1; isOnto 0 = false",
        "invert 0 = UOE",
        "spell aba = 1; image 0 c 1 = 0; isOnto 0 = false; invert 0 = UOE; spell abc = 2; image 0 c 2 = 3; isOnto 0 = true",
        "invert 0 = 2",
        "compose 0 2 = 3; fixes 3 2 = true; compose 2 0 = 4; fixes 4 2 = true");
    Edges.sentence(Edges.TERMS, "Without cancelling, its images done so many times are counted by letters, capital ones "
        + "and small ones together.",
        "map = 0; spell ab = 0; spell B = 1; image 0 a 0; image 0 b 1; growth 0 a 0 = 1; growth 0 a 1 = 2",
        "growth 0 a 2 = 3; spell a = 2",
        "apply 0 2 = 3; length 3 = 2; apply 0 3 = 4; length 4 = 1; growth 0 A 20 = 21; growth 0 B 20 = 1");
  }

  private static void tracks() {
    String text = "The first letter of the image of a letter is its head, none if the image is empty; a map is a track if "
        + "no image is empty and no letter and the next one in an image are so that the head of the inverse of the first "
        + "one and the head of the second one, each done again and again, from the letters themselves on, become one "
        + "letter at some time.";
    for (char letter : "abc".toCharArray()) {
      Edges.sentence(Edges.TERMS, text, "map = 0; isTrack 0 = true; spell - = 0; image 0 " + letter + " 0 = 1",
          "isTrack 0 = false; spell " + letter + letter + " = 1; image 0 " + letter + " 1 = 0; isTrack 0 = true");
    }
    // In Ab the heads of a, which is the inverse of A, and of b are a both, at once; without Ab nobody minds.
    Edges.sentence(Edges.TERMS, text, "map = 0; spell a = 0; spell Ab = 1; image 0 b 0; isTrack 0 = true; image 0 c 1",
        "isTrack 0 = false");
    // In bc the heads of B and c are a and b, c and A, b and A, and at the fourth time A both; in ca they never are one.
    Edges.sentence(Edges.TERMS, text, "map = 0; spell ca = 0; spell A = 1; spell bc = 2; image 0 a 0; image 0 b 1",
        "isTrack 0 = true",
        "image 0 c 2; isTrack 0 = false");
    // Here a and b become one another for ever, and A and B stay what they are.
    Edges.sentence(Edges.TERMS, text, "map = 0; spell ba = 0; spell ab = 1; image 0 a 0; image 0 b 1; isTrack 0 = true",
        "spell abc = 2",
        "image 0 c 2; isTrack 0 = true");
  }

  private static void moves() {
    Edges.sentence(Edges.TERMS, "again and again the move by which the core of what it becomes is shortest, of like ones "
        + "the first by x in the order of letters, then by the kind of the first other letter, then of the "
        + "second one, as long as that is shorter",
        "spell - = 0; shorten 0 = 1; length 1 = 0; spell B = 2; shorten 2 = 3; compare 2 3 = 0; spell CC = 4",
        "shorten 4 = 5; compare 4 5 = 0",
        "spell aabb = 6; shorten 6 = 7; compare 6 7 = 0; spell Ca = 8; shorten 8 = 9; length 9 = 1; letter 9 0 = C");
    Edges.sentence(Edges.TERMS, "A word is primitive if it becomes of the length 1.", "spell - = 0; isPrimitive 0 = false",
        "spell b = 1",
        "isPrimitive 1 = true; spell bb = 2; isPrimitive 2 = false; spell bab = 3; isPrimitive 3 = true; spell abAB = 4",
        "isPrimitive 4 = false");
    Edges.sentence(Edges.TERMS, "two empty ones are of one orbit", "word = 0; areOfOrbit 0 0 = true; spell bB = 1",
        "areOfOrbit 0 1 = true; spell b = 2",
        "areOfOrbit 0 2 = false; areOfOrbit 2 1 = false");
    Edges.sentence(Edges.TERMS, "Two words are of one orbit if both become of one length", "spell ab = 0; spell C = 1",
        "spell BB = 2; spell cc = 3",
        "spell bab = 4; areOfOrbit 0 1 = true; areOfOrbit 0 4 = true; areOfOrbit 2 3 = true; areOfOrbit 1 2 = false",
        "areOfOrbit 3 4 = false");
  }

  /** Round the end of a word and on from its beginning. */
  private static void turnedRound() {
    Edges.sentence(Edges.TERMS, "at last it is the first of all its turned round forms, by the order of words",
        "spell bbccaa = 0; shorten 0 = 1; spell aabbcc = 2; compare 1 2 = 0; spell abbcca = 3; shorten 3 = 4",
        "compare 4 2 = 0; spell ccaabb = 5",
        "shorten 5 = 6; compare 6 2 = 0; spell bbaacc = 7; shorten 7 = 8; letter 8 1 = a; letter 8 2 = c");
    // The last letter and the first one are beside each other as well: by their move alone the word becomes shorter.
    Edges.sentence(Edges.TERMS, "at last it is the first of all its turned round forms, by the order of words",
        "spell baBA = 0; shorten 0 = 1; spell aBAb = 2; compare 1 2 = 0; spell BAba = 3; shorten 3 = 4; compare 4 2 = 0",
        "spell AbaB = 5",
        "shorten 5 = 6; compare 6 2 = 0; spell bABa = 7; shorten 7 = 8; spell abAB = 9; compare 8 9 = 0",
        "isPrimitive 0 = false");
  }

  private static void exceptions() {
    // Script holds each call that throws against a twin to which it was not made; here are some with all that could change.
    Edges.sentence(Edges.TERMS, "A method that throws an exception changes nothing.", "spell ab = 0; spell aaB = 1",
        "group = 0; generate 0 0; map = 0",
        "image 0 a 1; type c; type #0 = IAE; product 0 9 = IOOBE; power 0 7 = IAE; conjugator 0 1 = NSEE",
        "generate 0 9 = IOOBE; undo 9 = IOOBE",
        "basis 0 5 = NSEE; writtenAt 0 0 7 = NSEE; meet 0 9 = IOOBE; join 9 0 = IOOBE; conjugate 0 9 = IOOBE",
        "fill 9 = IOOBE; image 0 A 0 = IAE",
        "image 0 b 9 = IOOBE; apply 0 9 = IOOBE; compose 0 9 = IOOBE; invert 9 = IOOBE; shorten 9 = IOOBE; wipe = 1",
        "length 2 = IOOBE");
    Edges.sentence(Edges.TERMS, "If several conditions of a method apply, the exception that is listed first is thrown.",
        "often 30 type a; word = 0; product 0 0 = 1; often 22 word = 23; often 30 type a = 30; type x = IAE; type a = ISE",
        "power 24 7 = IOOBE",
        "power 1 7 = IAE; power 1 2 = ISE; conjugator 24 0 = IOOBE; conjugator 0 1 = NSEE; conjugator 0 0 = ISE",
        "wipe = 30");
  }
}
