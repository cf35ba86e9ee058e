/** Promises 37 to 46. */
public final class MapsTest {
  private static final String A30 = "aaaaaaaaaaaaaaaaaaaaaaaaaaaaaa";

  public static void main(String[] args) {
    making();
    images();
    applying();
    composing();
    onto();
    inverting();
    fixing();
    growing();
    tracks();
    determinants();
    Check.end("MapsTest");
  }

  private static void making() {
    Script.run("37", "map = 0; spell abC = 0; fixes 0 0 = true; often 4 map; map = 5; map = ISE; determinant 5 = 1",
        "determinant 6 = IOOBE; fixes 5 0 = true");
  }

  private static void images() {
    Script.run("38", "image 0 a 0 = IOOBE; map = 0; image 0 a 0 = IOOBE; spell bc = 0; image 0 a 0 = 1; image 0 a 0 = 2",
        "image 0 c 0 = 1; image 0 b 0 = 1; image 0 A 0 = IAE; image 0 d 0 = IAE; image 0 #353 0 = IAE; image 1 A 0 = IOOBE",
        "image 0 A 1 = IOOBE; image -1 a 0 = IOOBE; image 0 a -1 = IOOBE; image 0 C 0 = IAE; spell - = 1",
        "image 0 a 1 = 2; image 0 a 0 = 0; image 0 b 0 = 2; spell abc = 2; image 0 b 2 = 2; image 0 b 2 = 3");
    Script.run("38 kept", "map; spell bc = 0; image 0 a 0; product 0 0 = 1; spell a = 2; apply 0 2 = 3; compare 3 0 = 0");
    Script.run("38 long", "map; spell " + A30 + " = 0; product 0 0 = 1; image 0 a 1 = 1; image 0 a 0 = 60");
  }

  private static void applying() {
    Script.run("39", "map; spell ab = 0; spell BA = 1; spell abAcB = 2; image 0 a 0; image 0 b 1; apply 0 0 = 3",
        "length 3 = 0; apply 0 2 = 4; spell BAcab = 5; compare 4 5 = 0; spell - = 6; apply 0 6 = 7; length 7 = 0",
        "apply 1 0 = IOOBE; apply 0 8 = IOOBE; apply -1 0 = IOOBE; apply 0 -1 = IOOBE; often 16 word; apply 0 0 = ISE",
        "apply 1 0 = IOOBE; apply 0 24 = IOOBE");
    Script.run("39 turned", "map; spell abc = 0; image 0 b 0; spell aB = 1; apply 0 1 = 2; length 2 = 4; letter 2 0 = a",
        "letter 2 1 = C; letter 2 2 = B; spell c = 3; image 0 c 3; spell Cb = 4; apply 0 4 = 5; length 5 = 4");
    Script.run("39 long", "map; spell " + A30 + " = 0; product 0 0 = 1; image 0 b 1; spell b = 2; apply 0 2 = 3",
        "length 3 = 60; spell bc = 4; apply 0 4 = ISE; length 5 = IOOBE; spell bA = 5; apply 0 5 = 6; length 6 = 59",
        "power 2 6 = 7; apply 0 7 = ISE; image 0 a 1; spell bbbAAA = 8; apply 0 8 = 9; length 9 = 0");
  }

  private static void composing() {
    Script.run("40", "map; map; spell ab = 0; spell c = 1; image 0 a 0; image 1 b 1; compose 0 1 = 2; compose 1 0 = 3",
        "spell a = 2; apply 2 2 = 3; letter 3 1 = c; apply 3 2 = 4; letter 4 1 = b; spell b = 5; apply 3 5 = 6",
        "letter 6 0 = c; compose 0 4 = IOOBE; compose 4 0 = IOOBE; compose -1 0 = IOOBE; compose 0 -1 = IOOBE",
        "compose 0 0 = 4; apply 4 2 = 7; length 7 = 3; letter 7 0 = a; letter 7 2 = b; compose 4 4 = 5",
        "apply 5 2 = 8; length 8 = 5; compose 0 0 = ISE; compose 0 6 = IOOBE; map = ISE");
    Script.run("40 long", "map; map; spell " + A30 + " = 0; product 0 0 = 1; spell ab = 2; image 0 a 1; image 1 a 2",
        "compose 0 1 = ISE; fixes 2 0 = IOOBE; compose 1 0 = ISE; map = 2");
    Script.run("40 cancelled", "map; map; spell " + A30 + " = 0; product 0 0 = 1; spell aB = 2; spell b = 3",
        "image 0 a 1; image 0 b 1; image 1 a 2; compose 1 0 = 2; image 2 a 0 = 0; image 2 b 0 = 60; image 0 b 3",
        "compose 1 0 = ISE; compose 0 1 = ISE");
    Script.run("40 sixty", "map; map; spell " + A30 + " = 0; product 0 0 = 1; spell b = 2; image 0 a 1; image 1 c 2",
        "compose 0 1 = 2; image 2 a 2 = 60; map = 3");
  }

  private static void onto() {
    Script.run("41", "map; isOnto 0 = true; spell ab = 0; spell b = 1; spell c = 2; spell aa = 3; spell - = 4; image 0 a 0",
        "isOnto 0 = true; image 0 b 0; isOnto 0 = false; image 0 b 1; image 0 a 3; isOnto 0 = false; image 0 a 4",
        "isOnto 0 = false; image 0 a 2; isOnto 0 = false; image 0 c 0; isOnto 0 = true; isOnto 1 = IOOBE",
        "isOnto -1 = IOOBE; spell bAB = 5; image 0 c 5; isOnto 0 = true; spell bcbCB = 6; spell bcB = 7; spell BaacAAb = 8",
        "image 0 a 6; image 0 b 7; image 0 c 8; isOnto 0 = false");
    Script.run("41 long", "map; spell " + A30 + " = 0; product 0 0 = 1; spell b = 2; product 1 2 = ISE; spell A = 3",
        "product 1 3 = 4; product 4 2 = 5; image 0 b 5; isOnto 0 = true; image 0 a 5; isOnto 0 = false");
  }

  private static void inverting() {
    Script.run("42", "map; spell ab = 0; spell bc = 1; spell a = 2; image 0 a 0; image 0 b 1; image 0 c 2; invert 0 = 1",
        "apply 1 2 = 3; length 3 = 1; letter 3 0 = c; spell b = 4; apply 1 4 = 5; length 5 = 2; letter 5 0 = C",
        "letter 5 1 = a; spell c = 6; apply 1 6 = 7; length 7 = 3; letter 7 0 = A; letter 7 1 = c; letter 7 2 = b",
        "invert 2 = IOOBE; invert -1 = IOOBE; invert 1 = 2; apply 2 4 = 8; compare 8 1 = 0; image 0 a 1",
        "invert 0 = UOE; often 3 map; invert 1 = ISE; invert 0 = UOE; invert 6 = IOOBE");
    Script.run("42 exchanges", "map; spell B = 0; spell c = 1; spell A = 2; image 0 a 0; image 0 b 1; image 0 c 2",
        "invert 0 = 1",
        "compose 0 1 = 2; spell abc = 3; fixes 2 3 = true; apply 1 1 = 4; letter 4 0 = b; apply 1 0 = 5; letter 5 0 = a",
        "spell a = 6; apply 1 6 = 7; letter 7 0 = C");
    // No image is shortened by another one alone: in bbC hides what b is only as the other two are looked at together.
    Script.run("42 hidden", "map; spell aB = 0; spell aC = 1; spell bbC = 2; image 0 a 0; image 0 b 1; image 0 c 2",
        "invert 0 = 1; spell a = 3; spell b = 4; spell c = 5; spell acBa = 6; spell cBa = 7; spell BacBa = 8",
        "apply 1 3 = 9; compare 9 6 = 0; apply 1 4 = 10; compare 10 7 = 0; apply 1 5 = 11; compare 11 8 = 0",
        "invert 1 = 2; apply 2 5 = 12; compare 12 2 = 0");
    // Only as images of like length are told apart by their halves these two come to an end.
    for (String images : new String[] {"BCaBcb BCbAbb BCbAcaBcb", "acaCA acba accaCA"}) {
      String[] parts = images.split(" ");
      Script.run("42 halves", "map; spell " + parts[0] + " = 0; spell " + parts[1] + " = 1; spell " + parts[2] + " = 2",
          "image 0 a 0; image 0 b 1; image 0 c 2; invert 0 = 1; compose 0 1 = 2; compose 1 0 = 3; spell a = 3; spell b = 4",
          "spell c = 5; fixes 2 3 = true; fixes 2 4 = true; fixes 2 5 = true; fixes 3 3 = true; fixes 3 4 = true",
          "fixes 3 5 = true; fixes 1 3 = false");
    }
    Script.run("42 one", "map; spell ab = 0; spell Bc = 1; image 0 a 0; image 0 b 1; invert 0 = 1; spell b = 2",
        "apply 1 2 = 3",
        "spell cB = 4; compare 3 4 = 0; spell a = 5; apply 1 5 = 6; spell abC = 7; compare 6 7 = 0");
    // b to bc^30, a to ab^30: of the inverse, a would have to have 30 times 31 letters.
    Script.run("42 long", "map; often 30 type c; word = 0; spell b = 1; product 1 0 = 2; spell " + A30.replace('a', 'b'),
        "spell a = 4; product 4 3 = 5; image 0 a 5; image 0 b 2; isOnto 0 = true; invert 0 = ISE; determinant 1 = IOOBE",
        "image 0 b 1; invert 0 = 1; apply 1 4 = 6; length 6 = 31; map = 2");
    Script.run("42 of sixty letters", "map; often 30 type b; word = 0; spell a = 1; power 0 2 = 2; spell B = 3",
        "product 2 3 = 4; product 1 4 = 5; length 5 = 60; image 0 a 5; invert 0 = 1; apply 1 1 = 6; length 6 = 60",
        "letter 6 59 = B; spell bC = 7; image 0 b 7; invert 0 = ISE; spell bc = 8; image 0 b 8; invert 0 = ISE");
  }

  private static void fixing() {
    Script.run("43", "map; spell abc = 0; spell BabB = 1; spell - = 2; fixes 0 0 = true; spell ab = 3; spell b = 4",
        "image 0 a 3; fixes 0 0 = false; fixes 0 4 = true; fixes 0 2 = true; spell abAB = 5; fixes 0 5 = true",
        "fixes 1 0 = IOOBE; fixes 0 6 = IOOBE; fixes -1 0 = IOOBE; fixes 0 -1 = IOOBE; fixes 0 1 = false");
    Script.run("43 long", "map; spell " + A30 + " = 0; product 0 0 = 1; image 0 a 1; fixes 0 1 = false; fixes 0 0 = false",
        "image 0 b 1; spell aB = 2; fixes 0 2 = false; spell c = 3; fixes 0 3 = true");
  }

  private static void growing() {
    Script.run("44", "map; spell ab = 0; image 0 a 0; growth 0 a 0 = 1; growth 0 a 1 = 2; growth 0 a 20 = 21",
        "growth 0 A 3 = 4; growth 0 b 20 = 1; growth 0 a -1 = IAE; growth 0 a 21 = IAE; growth 0 d 1 = IAE",
        "growth 1 d 1 = IOOBE; growth -1 a 0 = IOOBE; growth 0 d 21 = IAE; growth 0 a 2147483647 = IAE; spell - = 1",
        "image 0 b 1; growth 0 a 1 = 2; growth 0 a 2 = 2; growth 0 b 1 = 0; growth 0 b 0 = 1; growth 0 b 20 = 0");
    Script.run("44 without cancelling", "map; spell aB = 0; spell ab = 1; image 0 a 0; image 0 b 1; growth 0 a 2 = 4",
        "growth 0 B 10 = 1024; growth 0 a 20 = 1048576");
    Script.run("44 most", "map; spell " + A30 + " = 0; product 0 0 = 1; image 0 a 1; growth 0 a 8 = 167961600000000",
        "growth 0 a 9 = 1000000000000000; growth 0 a 20 = 1000000000000000; image 0 a 0; growth 0 a 10 = 590490000000000",
        "growth 0 A 11 = 1000000000000000; spell - = 2; image 0 b 0; image 0 a 2; growth 0 b 1 = 30; growth 0 b 2 = 0");
    Script.run("44 at the limit", "map; spell aaaaaaaaaa = 0; image 0 a 0; growth 0 a 14 = 100000000000000",
        "growth 0 a 15 = 1000000000000000; growth 0 a 16 = 1000000000000000");
  }

  private static void tracks() {
    Script.run("45", "map; isTrack 0 = true; isTrack 1 = IOOBE; isTrack -1 = IOOBE; spell ab = 0; spell bc = 1",
        "spell a = 2",
        "image 0 a 0; image 0 b 1; image 0 c 2; isTrack 0 = true; spell - = 3; image 0 c 3; isTrack 0 = false");
    // a to ab, b to aB: of b and the inverse of a in ab the heads are a and B, then a and b, then both a.
    Script.run("45 later", "map; spell ab = 0; spell aB = 1; image 0 a 0; image 0 b 1; isTrack 0 = false");
    // A letter that does not stand in an image leads heads together without harm.
    Script.run("45 not met", "map; spell ab = 0; spell a = 1; image 0 a 0; image 0 c 1; isTrack 0 = true; spell aC = 2",
        "image 0 b 2; isTrack 0 = false");
    Script.run("45 at once", "map; spell Ab = 0; spell a = 1; image 0 c 0; isTrack 0 = true; image 0 b 1",
        "isTrack 0 = false");
    // Of a and b the heads are A both, or a, and only one image has the two beside each other.
    Script.run("45 in each image", "map; map; map; spell Ab = 0; spell A = 1; spell a = 2; image 0 b 1; isTrack 0 = true",
        "image 0 a 0; isTrack 0 = false; image 1 a 1; isTrack 1 = true; image 1 b 0; isTrack 1 = false; image 2 b 2",
        "isTrack 2 = true; image 2 c 0; isTrack 2 = false");
    // The head of A is c, as the image of a ends with C, and so is that of b.
    Script.run("45 of capital letters", "map; spell C = 0; spell c = 1; spell ab = 2; image 0 a 0; image 0 b 1",
        "isTrack 0 = true",
        "image 0 c 2; isTrack 0 = false");
    Script.run("45 never", "map; spell ba = 0; spell ab = 1; image 0 a 0; image 0 b 1; isTrack 0 = true; spell aa = 2",
        "image 0 a 2; image 0 c 1; isTrack 0 = true");
  }

  private static void determinants() {
    Script.run("46", "map; determinant 0 = 1; spell b = 0; spell a = 1; image 0 a 0; image 0 b 1; determinant 0 = -1",
        "image 0 b 0; determinant 0 = 0; determinant 1 = IOOBE; determinant -1 = IOOBE; spell aab = 2; spell bbbcA = 3",
        "spell CCaBa = 4; image 0 a 2; image 0 b 3; image 0 c 4; determinant 0 = -10");
    Script.run("46 large", "map; often 30 type b; word = 0; power 0 2 = 1; often 30 type c; word = 2; power 2 -2 = 3",
        "often 30 type A; word = 4; power 4 2 = 5; image 0 a 1; image 0 b 3; image 0 c 5; determinant 0 = 216000");
  }
}
