/** Promises 47 to 49. */
public final class MovesTest {
  private static final String B30 = "bbbbbbbbbbbbbbbbbbbbbbbbbbbbbb";

  /** For each move with a small letter, by its letter and its kinds, a word that becomes another one without it. */
  private static final String[] BY_EACH_MOVE = {
    "a01: ABcAc c", "a02: bCACA C", "a03: accAbb bbcc", "a10: aBcAc B", "a11: bCaCA C", "a12: BCAAC B", "a13: BaBaCC BBCC",
    "a20: bcAca b", "a21: cAAcb b", "a22: cABca c", "a23: bacABc bcBc", "a30: aBAcAc B", "a31: CaCab C", "a32: ACbAC C",
    "b01: BacBc c", "b02: BCBAC C", "b03: BAAbCC AACC", "b10: cbAcB B", "b11: bCBaC C", "b12: CBCAb C", "b13: aCCBcB C",
    "b20: babcc c", "b21: ACbCB C", "b22: cBAcb c", "b23: ACCbcB C", "b30: BcBcba B", "b31: cBcAB c", "b32: BCBCa C",
    "c01: acaCbC b", "c02: CaaCCB C", "c03: BCac B", "c10: CaCBBC C", "c11: AcBc B", "c12: cbcA b", "c13: BBCCaCa C",
    "c20: caccBB c", "c21: bCAC b", "c22: bcac b", "c23: cBaccac c", "c30: aCBc B", "c31: caCbaBc c", "c32: ccAbccb c"};

  public static void main(String[] args) {
    shortening();
    firstOnes();
    byEachMove();
    primitive();
    orbits();
    Check.end("MovesTest");
  }

  private static void shortensTo(String what, String word, String form) {
    Script.run(what, "spell " + word + " = 0; shorten 0 = 1; spell " + form + " = 2; compare 1 2 = 0");
  }

  private static void shortening() {
    shortensTo("47 nothing", "-", "-");
    shortensTo("47 letter", "B", "B");
    shortensTo("47 core", "baB", "a");
    shortensTo("47 power", "cbbbC", "bbb");
    shortensTo("47 by two moves", "abb", "b");
    shortensTo("47 turned round", "BAba", "aBAb");
    shortensTo("47 not turned to the inverse", "CBcb", "bCBc");
    shortensTo("47 by moves", "ababcab", "c");
    shortensTo("47 squares", "aabbcc", "aabbcc");
    shortensTo("47 squares turned", "ccaabb", "aabbcc");
    shortensTo("47 powers of primitive ones", "abcabc", "cc");
    Script.run("47 long", "spell " + B30 + " = 0; product 0 0 = 1; spell Ba = 2; product 1 2 = 3; length 3 = 60",
        "shorten 3 = 4; length 4 = 1; letter 4 0 = b; shorten 1 = 5; length 5 = 60");
    Script.run("47 wrong", "shorten 0 = IOOBE; spell ab; shorten 1 = IOOBE; shorten -1 = IOOBE; often 23 word",
        "shorten 0 = ISE; shorten 24 = IOOBE; isPrimitive 0 = true");
  }

  /** Here moves that shorten alike lead to unlike forms, so that their order tells: by the letter and by each kind. */
  private static void firstOnes() {
    shortensTo("47 first letter", "Ca", "C");
    shortensTo("47 first letter again", "ac", "c");
    shortensTo("47 first kind", "bcBCACBa", "acBCbAC");
    shortensTo("47 second kind", "ABcBABaC", "aaCBcBB");
  }

  /** A move with a capital letter does to cores what one with the small letter does, which is ahead of it. */
  private static void byEachMove() {
    for (String row : BY_EACH_MOVE) {
      String[] parts = row.split(" ");
      shortensTo("47 by the move " + parts[0], parts[1], parts[2]);
    }
  }

  private static void primitive() {
    Script.run("48", "spell a = 0; isPrimitive 0 = true; spell aa = 1; isPrimitive 1 = false; spell - = 2",
        "isPrimitive 2 = false; spell cabaC = 3; isPrimitive 3 = true; spell abAB = 4; isPrimitive 4 = false",
        "spell aabaab = 5; isPrimitive 5 = false; spell abcabcab = 6; isPrimitive 6 = true; spell aabb = 7",
        "isPrimitive 7 = false; spell aabaabab = 8; isPrimitive 8 = true; isPrimitive 9 = IOOBE; isPrimitive -1 = IOOBE",
        "spell C = 9; isPrimitive 9 = true; spell aabbccc = 10; isPrimitive 10 = false; spell aabbabb = 11",
        "isPrimitive 11 = false");
    Script.run("48 and 51", "spell a; spell bb; isPrimitive 1 = false; primitiveShare = 0.5; spell ab",
        "isPrimitive 2 = true",
        "isPrimitive 0 = true; product 1 2 = 3; isPrimitive 3 = true; primitiveShare = 0.75");
  }

  private static void orbits() {
    Script.run("49", "spell a = 0; spell CBc = 1; spell bb = 2; spell acac = 3; spell CCC = 4; spell baaaB = 5",
        "spell - = 6; spell abAB = 7; spell aabbcc = 8; areOfOrbit 0 1 = true; areOfOrbit 2 3 = true",
        "areOfOrbit 4 5 = true; areOfOrbit 0 2 = false; areOfOrbit 2 4 = false; areOfOrbit 6 6 = true",
        "areOfOrbit 6 0 = false; areOfOrbit 7 7 = UOE; areOfOrbit 7 0 = UOE; areOfOrbit 0 8 = UOE; areOfOrbit 9 7 = IOOBE",
        "areOfOrbit 7 9 = IOOBE; areOfOrbit -1 0 = IOOBE; areOfOrbit 0 -1 = IOOBE; spell abcabcab = 9",
        "areOfOrbit 9 0 = true; areOfOrbit 0 0 = true; spell aaaa = 10; areOfOrbit 10 0 = UOE; areOfOrbit 6 10 = UOE");
  }
}
