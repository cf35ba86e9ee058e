/** Promises 47 to 53; what there are no such words for is told in WordEdges. */
final class MoveEdges {
  private MoveEdges() {}

  static void all() {
    shortening();
    orbits();
    checksums();
    shares();
    sound();
  }

  private static void shortening() {
    String text = "Throws `IllegalStateException` if there are 24 words, or it would be too long";
    Edges.sentence(47, text, "often 22 word = 21; spell aba = 22; shorten 22 = 23; length 23 = 1; shorten 22 = ISE",
        "shorten 0 = ISE");
    Edges.sentence(47, text, "often 30 type c; word = 0; product 0 0 = 1; shorten 1 = 2; compare 1 2 = 0; inverse 1 = 3",
        "shorten 3 = 4",
        "compare 3 4 = 0");
    Edges.sentence(48, "Returns whether it is.", "spell - = 0; isPrimitive 0 = false; spell C = 1; isPrimitive 1 = true",
        "spell CC = 2",
        "isPrimitive 2 = false; spell aA = 3; isPrimitive 3 = false; spell ab = 4; isPrimitive 4 = true; often 30 type b",
        "word = 5",
        "product 5 5 = 6; isPrimitive 6 = false; spell A = 7; product 5 7 = 8; isPrimitive 8 = true");
  }

  private static void orbits() {
    String text = "Throws `UnsupportedOperationException` if one becomes longer than 3";
    Edges.sentence(49, text, "spell aaa = 0; spell bbbb = 1; spell - = 2; spell cbbbC = 3; spell aBBBBA = 4",
        "areOfOrbit 0 0 = true",
        "areOfOrbit 0 3 = true; areOfOrbit 0 1 = UOE; areOfOrbit 1 0 = UOE; areOfOrbit 1 1 = UOE; areOfOrbit 2 1 = UOE",
        "areOfOrbit 1 2 = UOE; areOfOrbit 2 0 = false; areOfOrbit 4 2 = UOE; areOfOrbit 4 4 = UOE");
    // Of 60 letters that become one, and of two that become none.
    Edges.sentence(49, text, "often 30 type b; word = 0; power 0 2 = 1; spell Ba = 2; product 1 2 = 3; length 3 = 60",
        "spell C = 4",
        "areOfOrbit 3 4 = true; areOfOrbit 4 3 = true; areOfOrbit 1 4 = UOE; areOfOrbit 4 1 = UOE; spell bB = 5",
        "areOfOrbit 5 4 = false");
    Edges.sentence(49, text, "spell abAB = 0; spell a = 1; areOfOrbit 0 0 = UOE; areOfOrbit 0 1 = UOE",
        "areOfOrbit 1 0 = UOE",
        "areOfOrbit 1 1 = true");
  }

  private static void checksums() {
    Edges.sentence(50, "Returns 7 at first", "checksum = 7; type a; checksum = 7; wipe; checksum = 7");
    // More than a long holds, many times over, below 0 as well as above it.
    Edges.sentence(50, "then for each word 31 times itself plus its length", "often 30 type C; word = 0; product 0 0 = 1",
        "often 22 inverse 1 = 23",
        "checksum = " + afterInverses());
    Edges.sentence(50, "then for each word 31 times itself plus its length", "often 24 word = 23",
        "checksum = " + 7 * power31(24));
    long groups = 7;
    for (int group = 0; group < 8; group++) {
      groups = 31 * (31 * groups + 1) + (group < 7 ? 0 : 3);
    }
    Edges.sentence(50, "then for each group 31 times itself plus its points, then 31 times itself plus its rank",
        "often 7 group = 6; fill 0 = 7; checksum = " + groups);
    long maps = 7;
    for (int image = 0; image < 18; image++) {
      maps = 31 * maps + 1;
    }
    Edges.sentence(50, "then for each map and a, b and c 31 times itself plus the length of the image",
        "often 6 map = 5; checksum = " + maps);
    Edges.sentence(50, "then for each map and a, b and c 31 times itself plus the length of the image",
        "word = 0; map = 0; image 0 a 0; image 0 b 0; image 0 c 0; checksum = " + 7 * power31(4));
  }

  private static long power31(int exponent) {
    long power = 1;
    for (int i = 0; i < exponent; i++) {
      power *= 31;
    }
    return power;
  }

  /** 30 letters C, 60 of them, and 22 words of 60 letters c. */
  private static long afterInverses() {
    long sum = 7;
    for (int word = 0; word < 24; word++) {
      int length = word == 0 ? 30 : 60;
      sum = 31 * sum + length;
      for (int i = 0; i < length; i++) {
        sum = 31 * sum + (word < 2 ? 'C' : 'c');
      }
    }
    return sum;
  }

  private static void shares() {
    String none = "Throws `ArithmeticException` if there are none";
    Edges.sentence(51, none, "primitiveShare = AE; type a = 1; group = 0; map = 0; primitiveShare = AE; word = 0",
        "primitiveShare = 1.0");
    Edges.sentence(51, "Returns their number divided by that of all, both converted to float.",
        "word = 0; primitiveShare = 0.0; spell ab = 1; primitiveShare = 0.5; spell bb = 2; primitiveShare = " + 1f / 3f,
        "often 21 word = 23; primitiveShare = " + 1f / 24f);
    Edges.sentence(51, "Returns their number divided by that of all, both converted to float.",
        "spell aab = 0; often 23 inverse 0 = 23; primitiveShare = 1.0");
    Edges.sentence(52, none, "meanLength = AE; type a = 1; group = 0; map = 0; meanLength = AE; wipe = 1; word = 0",
        "meanLength = 0.0");
    Edges.sentence(52, "Returns the sum divided by their number, both converted to double.",
        "often 30 type a; word = 0; product 0 0 = 1; meanLength = 45.0; often 22 inverse 1 = 23; meanLength = 58.75");
    Edges.sentence(52, "Returns the sum divided by their number, both converted to double.",
        "spell a = 0; word = 1; word = 2; meanLength = " + 1.0 / 3.0 + "; often 21 word = 23; meanLength = " + 1.0 / 24.0);
  }

  private static void sound() {
    Edges.sentence(53, "Returns whether all of this holds.", "isSound = true; word = 0; group = 0; map = 0",
        "generate 0 0 = 0; image 0 a 0 = 1",
        "isSound = true");
    // As many words, groups and maps as there can be, the words as long, the groups as large.
    Edges.sentence(53, "Returns whether all of this holds.", "often 30 type a; word = 0; product 0 0 = 1; often 20 type a",
        "word = 2",
        "power 2 2 = 3; often 20 inverse 1 = 23; word = ISE; group = 0; generate 0 3 = 1; fill 0 = 1; rank 1 = 81",
        "often 3 meet 1 1 = 4",
        "often 3 join 4 1 = 7; group = ISE; points 7 = 40; map = 0; image 0 a 1 = 1; image 0 b 1 = 1; image 0 c 1 = 1",
        "often 5 map = 5",
        "map = ISE; isSound = true");
  }
}
