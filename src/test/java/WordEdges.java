/** Promises 1 to 15. */
final class WordEdges {
  private static final String A10 = "aaaaaaaaaa";
  private static final String B20 = "bbbbbbbbbbbbbbbbbbbb";
  /** Makes 0, of 30 letters a, and 1, of 60. */
  private static final String SIXTY = "often 30 type a; word = 0; product 0 0 = 1";

  private WordEdges() {}

  static void all() {
    newObject();
    typing();
    words();
    letters();
    products();
    powers();
    coresAndSums();
    conjugators();
  }

  private static void newObject() {
    Edges.sentence(1, "Creates a rose without words, groups and maps.",
        "length 0 = IOOBE; points 0 = IOOBE; determinant 0 = IOOBE; checksum = 7; wipe = 0; word = 0; length 0 = 0",
        "group = 0; points 0 = 1; map = 0; determinant 0 = 1");
  }

  private static void typing() {
    Edges.sentence(2, "Throws `IllegalArgumentException` if there is no such letter",
        "type #96 = IAE; type d = IAE; type #64 = IAE; type D = IAE; type #0 = IAE; type #32 = IAE; type 0 = IAE",
        "type z = IAE; type Z = IAE; type #65535 = IAE; type #353 = IAE; type #321 = IAE; type #32865 = IAE; wipe = 0");
    Edges.sentence(2, "Throws `IllegalArgumentException` if there is no such letter",
        "type a = 1; type A = 2; type b = 3; type B = 4; type c = 5; type C = 6; type d = IAE; wipe = 6");
    Edges.sentence(2, "Throws `IllegalStateException` if there are 30",
        "often 29 type c = 29; type C = 30; type c = ISE; type a = ISE; wipe = 30; type b = 1");
    Edges.sentence(2, "Throws `IllegalStateException` if there are 30",
        "often 15 type a = 15; often 15 type A = 30; type a = ISE; word = 0; length 0 = 0; type a = 1");
    Edges.sentence(3, "Returns how many there were.",
        "wipe = 0; wipe = 0; often 30 type b = 30; wipe = 30; wipe = 0; spell ab = 0; wipe = 0; length 0 = 2");
  }

  private static void words() {
    Edges.sentence(4, "Makes a word of the typed letters, which are gone then.",
        "often 30 type A; word = 0; length 0 = 30; letter 0 29 = A; wipe = 0; word = 1; length 1 = 0; type a = 1");
    Edges.sentence(4, "Throws `IllegalStateException` if there are 24 words",
        "often 23 word = 22; type a; word = 23; length 23 = 1; word = ISE; type b = 1; type B = 2; word = ISE; wipe = 2");
    for (String call : new String[] {"length W", "core W", "inverse W", "shorten W", "isPrimitive W"}) {
      int promise = promiseOf(call);
      Edges.sentence(promise, "Throws `IndexOutOfBoundsException` if there is no such word", noSuchWord(call));
    }
    for (String call : new String[] {"letter W 0", "power W 1", "exponent W", "sum W a"}) {
      int promise = promiseOf(call);
      Edges.sentence(promise, "Throws `IndexOutOfBoundsException` if there is no such word", noSuchWord(call));
    }
    for (String call : new String[] {"compare W X", "product W X", "commute W X", "conjugator W X", "areOfOrbit W X"}) {
      int promise = promiseOf(call);
      Edges.sentence(promise, "Throws `IndexOutOfBoundsException` if there is no such word, for either",
          noSuchWord(call.replace('X', '0')));
      Edges.sentence(promise, "Throws `IndexOutOfBoundsException` if there is no such word, for either",
          noSuchWord(call.replace('W', '0').replace('X', 'W')));
    }
    Edges.sentence(5, "Returns how many letters.", "word = 0; length 0 = 0; " + "often 30 type C; word = 1; length 1 = 30",
        "product 1 1 = 2; length 2 = 60");
  }

  private static int promiseOf(String call) {
    switch (call.substring(0, call.indexOf(' '))) {
      case "length": return 5;
      case "letter": return 6;
      case "compare": return 7;
      case "product": return 8;
      case "inverse": return 9;
      case "power": return 10;
      case "core": return 11;
      case "exponent": return 12;
      case "sum": return 13;
      case "commute": return 14;
      case "conjugator": return 15;
      case "shorten": return 47;
      case "isPrimitive": return 48;
      default: return 49;
    }
  }

  /** The call for numbers on both sides of those that there are, first of no word, then of two, then of all 24. */
  private static String noSuchWord(String call) {
    StringBuilder script = new StringBuilder();
    for (String number : new String[] {"0", "-1", "most", "least"}) {
      script.append(call.replace("W", number)).append(" = IOOBE; ");
    }
    script.append("spell a; spell a; often 2 ").append(call.replace("W", "1")).append("; ");
    for (String number : new String[] {"-1", "-2", "30", "most", "least"}) {
      script.append(call.replace("W", number)).append(" = IOOBE; ");
    }
    script.append("often 24 word; length 23; ");
    for (String number : new String[] {"-1", "24", "25", "256", "most", "least"}) {
      script.append(call.replace("W", number)).append(" = IOOBE; ");
    }
    return script.append("length 24 = IOOBE").toString();
  }

  private static void letters() {
    Edges.sentence(6, "Throws `NoSuchElementException` if there is none",
        "spell - = 0; letter 0 0 = NSEE; letter 0 -1 = NSEE; letter 0 1 = NSEE; letter 0 most = NSEE",
        "letter 0 least = NSEE");
    Edges.sentence(6, "Throws `NoSuchElementException` if there is none",
        "spell bAc = 0; letter 0 0 = b; letter 0 2 = c; letter 0 3 = NSEE; letter 0 -1 = NSEE; letter 0 4 = NSEE",
        SIXTY.replace("0 0 = 1", "1 1 = 2").replace("word = 0", "word = 1"), "letter 2 59 = a; letter 2 60 = NSEE",
        "letter 2 -1 = NSEE; letter 2 most = NSEE; letter 2 least = NSEE");
    Edges.sentence(6, "- `index`: the place, from 0", "spell bAc = 0; letter 0 -1 = NSEE; letter 0 0 = b; letter 0 1 = A");
    Edges.sentence(7, "Returns -1 the first one is ahead, 0 they are alike, 1 behind.",
        "spell - = 0; spell a = 1; spell C = 2; compare 0 0 = 0; compare 0 1 = -1; compare 1 0 = 1; compare 1 2 = -1",
        "compare 2 1 = 1; compare 2 2 = 0; spell aa = 3; compare 2 3 = -1; compare 3 2 = 1; spell a = 4; compare 1 4 = 0");
  }

  private static void products() {
    Edges.sentence(8, "Throws `IllegalStateException` if there are 24 words, or it would be too long",
        "often 22 word; spell a = 22; product 22 22 = 23; length 23 = 2; product 22 22 = ISE; product 0 0 = ISE");
    Edges.sentence(8, "Throws `IllegalStateException` if there are 24 words, or it would be too long",
        SIXTY, "spell b = 2; product 1 2 = ISE; product 2 1 = ISE; product 1 1 = ISE; spell A = 3; product 1 3 = 4",
        "length 4 = 59; product 4 2 = 5; length 5 = 60; letter 5 59 = b; product 5 2 = ISE");
    // Two of 31 letters are too long; that two of 60 are so before they cancel is no matter.
    Edges.sentence(8, "Throws `IllegalStateException` if there are 24 words, or it would be too long",
        SIXTY, "spell c = 2; product 0 2 = 3; product 3 3 = ISE; product 3 0 = ISE; inverse 1 = 4; product 1 4 = 5",
        "length 5 = 0; product 4 1 = 6; length 6 = 0; product 4 4 = ISE");
    Edges.sentence(9, "Throws `IllegalStateException` if there are 24 words, or it would be too long",
        "often 22 word; spell ab = 22; inverse 22 = 23; letter 23 0 = B; inverse 22 = ISE; inverse 0 = ISE");
    Edges.sentence(9, "Throws `IllegalStateException` if there are 24 words, or it would be too long",
        SIXTY, "inverse 1 = 2; length 2 = 60; letter 2 59 = A; inverse 2 = 3; compare 1 3 = 0");
  }

  private static void powers() {
    Edges.sentence(10, "Throws `IllegalArgumentException` if it is out of range",
        "spell a = 0; power 0 7 = IAE; power 0 -7 = IAE; power 0 8 = IAE; power 0 most = IAE; power 0 least = IAE",
        "power 0 262 = IAE; power 0 -250 = IAE; length 1 = IOOBE; spell - = 1; power 1 7 = IAE; power 1 -7 = IAE");
    Edges.sentence(10, "- `exponent`: -6 to 6",
        "spell aB = 0; power 0 6 = 1; length 1 = 12; letter 1 11 = B; power 0 -6 = 2; length 2 = 12; letter 2 11 = A",
        "power 0 0 = 3; length 3 = 0; power 0 1 = 4; compare 4 0 = 0; power 0 -1 = 5; length 5 = 2; letter 5 0 = b");
    Edges.sentence(10, "Throws `IllegalStateException` if there are 24 words, or it would be too long",
        "often 22 word; spell ab = 22; power 22 2 = 23; power 22 2 = ISE; power 22 0 = ISE; power 0 -1 = ISE");
    Edges.sentence(10, "Throws `IllegalStateException` if there are 24 words, or it would be too long",
        "spell " + A10 + " = 0; power 0 6 = 1; length 1 = 60; power 0 -6 = 2; length 2 = 60; spell a" + A10 + " = 3",
        "power 3 5 = 4; length 4 = 55; power 3 6 = ISE; power 3 -6 = ISE; power 1 2 = ISE; power 1 1 = 5; power 1 0 = 6");
    // Eleven letters behind three, then the three backward: five times is 61; of ten behind five it is 60.
    Edges.sentence(10, "Throws `IllegalStateException` if there are 24 words, or it would be too long",
        "spell bbba" + A10 + "BBB = 0; power 0 5 = ISE; power 0 -5 = ISE; power 0 4 = 1; length 1 = 50",
        "spell bbbbb" + A10 + "BBBBB = 2; power 2 5 = 3; length 3 = 60; power 2 -5 = 4; length 4 = 60; power 2 6 = ISE");
  }

  private static void coresAndSums() {
    Edges.sentence(11, "Returns how many letters.",
        "spell - = 0; core 0 = 0; spell b = 1; core 1 = 1; spell baB = 2; core 2 = 1; spell bb = 3; core 3 = 2",
        "spell abcBA = 4; core 4 = 1; spell abcA = 5; core 5 = 2; spell abA = 6; spell aba = 7; core 7 = 3",
        "often 29 type b; word = 8; inverse 8 = 9; spell aa = 10; product 8 10 = 11; product 11 9 = 12; length 12 = 60",
        "core 12 = 2");
    Edges.sentence(12, "Throws `NoSuchElementException` if the word is empty",
        "spell - = 0; exponent 0 = NSEE; spell aA = 1; exponent 1 = NSEE; spell a = 2; exponent 2 = 1");
    Edges.sentence(12, "Returns the exponent, 1 at least.",
        "spell C = 0; exponent 0 = 1; spell ab = 1; exponent 1 = 1; often 30 type c; word = 2; exponent 2 = 30",
        "product 2 2 = 3; exponent 3 = 60; spell bbabaB = 4; exponent 4 = 2; spell ababa = 5; exponent 5 = 1");
    Edges.sentence(13, "Throws `IllegalArgumentException` if there is no such letter",
        "spell ab = 0; sum 0 #96 = IAE; sum 0 d = IAE; sum 0 #64 = IAE; sum 0 D = IAE; sum 0 #0 = IAE; sum 0 #353 = IAE",
        "sum 0 #65535 = IAE; spell - = 1; sum 1 x = IAE; sum 1 a = 0; sum 0 A = -1; sum 0 c = 0");
    Edges.sentence(13, "Returns the difference.", SIXTY, "sum 1 a = 60; sum 1 A = -60; sum 1 b = 0; sum 1 C = 0",
        "inverse 1 = 2; sum 2 a = -60; spell - = 3; sum 3 C = 0; spell abA = 4; sum 4 a = 0");
    // No word is made, so that neither 24 words nor 120 letters are in the way.
    Edges.sentence(14, "Tells whether two words are the same in both orders of their product.",
        "spell - = 0; spell ab = 1; commute 0 0 = true; commute 0 1 = true; commute 1 0 = true; spell ba = 2",
        "commute 1 2 = false; often 30 type a; word = 3; product 3 3 = 4; inverse 4 = 5; commute 4 4 = true",
        "commute 4 5 = true; commute 4 1 = false; often 18 word = 23; commute 4 5 = true; commute 1 2 = false");
  }

  private static void conjugators() {
    Edges.sentence(15, "Throws `NoSuchElementException` if there is none",
        "spell a = 0; spell b = 1; spell aa = 2; spell A = 3; spell - = 4; spell aab = 5; spell bba = 6; spell BAA = 7",
        "conjugator 0 1 = NSEE; conjugator 0 2 = NSEE; conjugator 0 3 = NSEE; conjugator 0 4 = NSEE; conjugator 4 0 = NSEE",
        "conjugator 5 6 = NSEE; conjugator 5 7 = NSEE; conjugator 4 4 = 8; length 8 = 0; conjugator 0 0 = 9; length 9 = 0");
    Edges.sentence(15, "Throws `IllegalStateException` if there are 24 words, or it would be too long",
        "spell ab = 0; spell ba = 1; often 21 word = 22; conjugator 0 1 = 23; letter 23 0 = A; conjugator 0 1 = ISE",
        "conjugator 0 0 = ISE; conjugator 2 2 = ISE");
    // The longest that there can be: from C29 ab c29 to b29 ba B29 by b29 A c29, the word of 59 letters.
    Edges.sentence(15, "Throws `IllegalStateException` if there are 24 words, or it would be too long",
        "often 29 type C; word = 0; inverse 0 = 1; spell ab = 2; product 0 2 = 3; product 3 1 = 4; often 29 type b",
        "word = 5",
        "inverse 5 = 6; spell ba = 7; product 5 7 = 8; product 8 6 = 9; length 4 = 60; length 9 = 60; conjugator 4 9 = 10",
        "length 10 = 59; letter 10 28 = b; letter 10 29 = A; letter 10 30 = c; letter 10 58 = c");
    // Going round not at all, by one letter either way, and half round, where both ways are as long.
    Edges.sentence(15, "Makes the first word, by their order, that, behind it another one and then its own inverse, is the "
        + "one told.", "spell aabc = 0; conjugator 0 0 = 1; length 1 = 0; spell abca = 2; conjugator 0 2 = 3; length 3 = 1",
        "letter 3 0 = A; spell caab = 4; conjugator 0 4 = 5; length 5 = 1; letter 5 0 = c; spell bcaa = 6",
        "conjugator 0 6 = 7; length 7 = 2; letter 7 0 = A; letter 7 1 = A; conjugator 6 0 = 8; length 8 = 2");
    Edges.sentence(15, "Makes the first word, by their order, that, behind it another one and then its own inverse, is the "
        + "one told.", "spell " + B20 + " = 0; conjugator 0 0 = 1; length 1 = 0; spell a" + B20 + "A = 2",
        "conjugator 0 2 = 3; length 3 = 1; letter 3 0 = a; conjugator 2 0 = 4; letter 4 0 = A; length 4 = 1");
  }
}
