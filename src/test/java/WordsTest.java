/** Promises 1 to 15, and 50 to 53 as far as words go. */
public final class WordsTest {
  private static final String A30 = "aaaaaaaaaaaaaaaaaaaaaaaaaaaaaa";

  public static void main(String[] args) {
    examples();
    newObject();
    typing();
    wordsAndLetters();
    comparing();
    products();
    inversesAndPowers();
    coresAndExponents();
    sums();
    commuting();
    conjugators();
    Check.end("WordsTest");
  }

  private static void examples() {
    Script.run("example 1", "type a = 1; type a = 2; word = 0; type b = 1; word = 1; group = 0; generate 0 0 = 1",
        "generate 0 1 = 2; points 0 = 2; contains 0 0 = true; count 0 2 = 4");
    Script.run("example 2", "type b = 1; type a = 2; type B = 3; word = 0; core 0 = 1; isPrimitive 0 = true",
        "shorten 0 = 1; letter 1 0 = a");
    Script.run("example 3", "type a = 1; type b = 2; word = 0; map = 0; image 0 a 0 = 1; isOnto 0 = true",
        "growth 0 a 3 = 4; invert 0 = 1");
  }

  private static void newObject() {
    Script.run("1", "checksum = 7; wipe = 0; length 0 = IOOBE; points 0 = IOOBE; isOnto 0 = IOOBE; isSound = true",
        "meanLength = AE; primitiveShare = AE; word = 0; group = 0; map = 0");
  }

  private static void typing() {
    Script.run("2 letters", "type a = 1; type A = 2; type b = 3; type B = 4; type c = 5; type C = 6; wipe = 6");
    Script.run("2 no letters", "type d = IAE; type D = IAE; type #96 = IAE; type #64 = IAE; type #32 = IAE; type #0 = IAE",
        "type #353 = IAE; type #65535 = IAE; type 1 = IAE; wipe = 0");
    Script.run("2 thirty", "often 29 type b = 29; type a = 30; type a = ISE; type A = ISE; type x = IAE; wipe = 30",
        "type a = 1");
    Script.run("2 not cancelled", "type a = 1; type A = 2; type a = 3; wipe = 3");
    Script.run("3", "wipe = 0; type a = 1; type b = 2; wipe = 2; wipe = 0; word = 0; length 0 = 0; type c = 1");
  }

  private static void wordsAndLetters() {
    Script.run("4 cancelled", "spell abBAc = 0; length 0 = 1; letter 0 0 = c; wipe = 0; spell aA = 1; length 1 = 0",
        "spell abcCBAbB = 2; length 2 = 0; spell abcCbBBa = 3; length 3 = 2; letter 3 0 = a; letter 3 1 = a",
        "word = 4; length 4 = 0");
    Script.run("4 too many", "often 24 word = 23; word = ISE; type a = 1; word = ISE; type b = 2; word = ISE; wipe = 2",
        "length 23 = 0; length 24 = IOOBE");
    Script.run("4 of thirty", "often 30 type C; word = 0; length 0 = 30; letter 0 29 = C");
    Script.run("5", "length 0 = IOOBE; spell abc = 0; length 0 = 3; length 1 = IOOBE; length -1 = IOOBE",
        "length 2147483647 = IOOBE; length -2147483648 = IOOBE");
    Script.run("6", "letter 0 0 = IOOBE; spell aAbBcCaBc = 0; letter 0 0 = a; letter 0 1 = B; letter 0 2 = c",
        "letter 0 3 = NSEE; letter 0 -1 = NSEE; letter 1 0 = IOOBE; letter -1 -1 = IOOBE; spell - = 1",
        "letter 1 0 = NSEE; spell A = 2; letter 2 0 = A; spell b = 3; letter 3 0 = b; spell C = 4; letter 4 0 = C",
        "letter 0 2147483647 = NSEE; letter 0 -2147483648 = NSEE");
  }

  private static void comparing() {
    String[] inOrder = {"-", "a", "A", "b", "B", "c", "C", "aa", "ab", "aB", "ac", "Ab", "ba", "CC", "aaa"};
    for (int i = 0; i < inOrder.length; i++) {
      for (int k = 0; k < inOrder.length; k++) {
        Script.run("7", "spell " + inOrder[i], "spell " + inOrder[k], "compare 0 1 = " + Integer.compare(i, k));
      }
    }
    Script.run("7 none", "spell a; compare 0 1 = IOOBE; compare 1 0 = IOOBE; compare -1 0 = IOOBE; compare 0 -1 = IOOBE",
        "compare 0 0 = 0");
  }

  private static void products() {
    Script.run("8", "spell abc = 0; spell CBa = 1; product 0 1 = 2; length 2 = 2; letter 2 0 = a; letter 2 1 = a",
        "product 1 0 = 3; length 3 = 6; letter 3 0 = C; letter 3 5 = c; product 0 0 = 4; length 4 = 6; letter 4 3 = a",
        "product 0 5 = IOOBE; product 5 0 = IOOBE; product -1 0 = IOOBE; product 0 -1 = IOOBE");
    Script.run("8 to nothing", "spell abC = 0; inverse 0 = 1; product 0 1 = 2; length 2 = 0; product 2 2 = 3");
    Script.run("8 long", "spell " + A30 + " = 0; product 0 0 = 1; length 1 = 60; spell a = 2; product 1 2 = ISE",
        "spell A = 3; product 1 3 = 4; length 4 = 59; product 4 2 = 5; length 5 = 60; spell b; product 5 6 = ISE",
        "length 7 = IOOBE; product 1 1 = ISE; inverse 1 = 7; product 1 7 = 8; length 8 = 0");
    Script.run("8 too many", "spell a = 0; often 23 word; product 0 0 = ISE; product 0 24 = IOOBE; product 1 1 = ISE");
  }

  private static void inversesAndPowers() {
    Script.run("9", "spell abC = 0; inverse 0 = 1; length 1 = 3; letter 1 0 = c; letter 1 1 = B; letter 1 2 = A",
        "inverse 2 = IOOBE; inverse -1 = IOOBE; spell - = 2; inverse 2 = 3; length 3 = 0; often 20 word",
        "inverse 0 = ISE; inverse 24 = IOOBE");
    Script.run("10", "spell baB = 0; power 0 3 = 1; length 1 = 5; letter 1 0 = b; letter 1 1 = a; letter 1 3 = a",
        "letter 1 4 = B; power 0 -2 = 2; length 2 = 4; letter 2 1 = A; power 0 0 = 3; length 3 = 0; power 0 1 = 4",
        "compare 0 4 = 0; power 0 -1 = 5; letter 5 1 = A; power 0 6 = 6; length 6 = 8; power 0 -6 = 7; length 7 = 8",
        "power 0 7 = IAE; power 0 -7 = IAE; power 8 7 = IOOBE; power -1 0 = IOOBE; power 0 -2147483648 = IAE",
        "power 0 2147483647 = IAE; power 3 6 = 8; length 8 = 0");
    Script.run("10 long", "spell ababababab = 0; power 0 6 = 1; length 1 = 60; power 0 -6 = 2; length 2 = 60; spell c",
        "product 0 3 = 4; power 4 5 = 5; length 5 = 55; power 4 6 = ISE; power 4 -6 = ISE; power 1 2 = ISE",
        "power 1 1 = 6; power 1 0 = 7; power 4 7 = IAE");
    Script.run("10 too many", "often 24 word; power 0 1 = ISE; power 0 7 = IAE; power 24 1 = IOOBE");
  }

  private static void coresAndExponents() {
    Script.run("11", "spell abcBA = 0; core 0 = 1; spell abA = 1; core 1 = 1; spell ab = 2; core 2 = 2; spell - = 3",
        "core 3 = 0; spell caaabC = 4; core 4 = 4; spell abAB = 5; core 5 = 4; core 6 = IOOBE; core -1 = IOOBE",
        "spell aba = 6; core 6 = 3; spell aca = 7; core 7 = 3; spell a = 8; core 8 = 1");
    Script.run("12", "spell a = 0; exponent 0 = 1; spell AAA = 1; exponent 1 = 3; spell abab = 2; exponent 2 = 2",
        "spell cababC = 3; exponent 3 = 2; spell ababa = 4; exponent 4 = 1; spell aab = 5; exponent 5 = 1",
        "power 2 6 = 6; exponent 6 = 12; spell - = 7; exponent 7 = NSEE; exponent 8 = IOOBE; exponent -1 = IOOBE",
        "spell abABabAB = 8; exponent 8 = 2; spell aabaab = 9; exponent 9 = 2; spell bccccB = 10; exponent 10 = 4");
  }

  private static void sums() {
    Script.run("13", "spell aabAcccBBA = 0; sum 0 a = 0; sum 0 b = -1; sum 0 c = 3; sum 0 C = -3; sum 0 B = 1",
        "sum 0 A = 0; sum 0 d = IAE; sum 1 d = IOOBE; sum -1 a = IOOBE; spell - = 1; sum 1 a = 0; sum 1 #353 = IAE");
  }

  private static void commuting() {
    Script.run("14", "spell ab = 0; spell ababab = 1; spell BA = 2; spell ba = 3; spell - = 4; spell a = 5",
        "commute 0 1 = true; commute 1 2 = true; commute 0 3 = false; commute 0 4 = true; commute 4 4 = true",
        "commute 0 5 = false; commute 5 5 = true; commute 0 6 = IOOBE; commute 6 0 = IOOBE; commute -1 0 = IOOBE");
    Script.run("14 long", "spell " + A30 + " = 0; product 0 0 = 1; commute 1 1 = true; spell b = 2; commute 1 2 = false");
  }

  private static void conjugators() {
    Script.run("15", "spell aa = 0; spell baaB = 1; conjugator 0 1 = 2; length 2 = 1; letter 2 0 = b",
        "conjugator 1 0 = 3; letter 3 0 = B; length 3 = 1; conjugator 0 0 = 4; length 4 = 0; conjugator 1 1 = 5",
        "length 5 = 0; spell a = 6; conjugator 0 6 = NSEE; spell AA = 7; conjugator 0 7 = NSEE; spell - = 8",
        "conjugator 8 8 = 9; length 9 = 0; conjugator 8 0 = NSEE; conjugator 0 8 = NSEE; conjugator 0 10 = IOOBE",
        "conjugator 10 0 = IOOBE; conjugator -1 0 = IOOBE; spell bb = 10; conjugator 0 10 = NSEE");
    // Two ways round: A and b both make ba of ab, and A is ahead.
    Script.run("15 first one", "spell ab = 0; spell ba = 1; conjugator 0 1 = 2; length 2 = 1; letter 2 0 = A",
        "conjugator 1 0 = 3; length 3 = 1; letter 3 0 = a");
    // Of aab, baa is made by AA and by b, and aba by A and by ab.
    Script.run("15 shorter way", "spell aab = 0; spell baa = 1; conjugator 0 1 = 2; length 2 = 1; letter 2 0 = b",
        "spell aba = 3; conjugator 0 3 = 4; length 4 = 1; letter 4 0 = A");
    Script.run("15 powers", "spell cababC = 0; spell bbabaB = 1; conjugator 0 1 = 2; product 2 0 = 3; inverse 2 = 4",
        "product 3 4 = 5; compare 5 1 = 0; length 2 = 3; letter 2 0 = b; letter 2 1 = A; letter 2 2 = C");
    Script.run("15 too many", "spell ab = 0; spell ba = 1; often 22 word; conjugator 0 1 = ISE; conjugator 0 2 = NSEE",
        "conjugator 0 24 = IOOBE");
  }
}
