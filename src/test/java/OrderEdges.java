/**
 * "If several conditions of a method apply, the exception that is listed first is thrown": for each method that lists
 * several, a run for each two of its conditions that can apply at once. For exponent, undo and index that is none, as
 * what is not there is not empty; there it is the one exception that is looked for.
 */
final class OrderEdges {
  private static final String LONG = "often 30 type a; word = 0; product 0 0 = 1";

  private OrderEdges() {}

  static void all() {
    words();
    groups();
    groupsFromGroups();
    maps();
    moves();
  }

  private static void words() {
    Edges.order(2, "often 30 type a = 30; type d = IAE; type #0 = IAE; type a = ISE; wipe = 30");
    Edges.order(6, "letter 0 0 = IOOBE; letter -1 -1 = IOOBE; word = 0; letter 1 0 = IOOBE; letter 1 -1 = IOOBE",
        "letter 0 0 = NSEE");
    Edges.order(8, "often 24 word = 23; product 24 0 = IOOBE; product 0 24 = IOOBE; product -1 -1 = IOOBE",
        "product 0 0 = ISE");
    Edges.order(8, LONG, "product 1 2 = IOOBE; product 2 1 = IOOBE; product 1 1 = ISE");
    Edges.order(9, "often 24 word = 23; inverse 24 = IOOBE; inverse -1 = IOOBE; inverse 0 = ISE");
    Edges.order(10, "often 23 word = 22; spell ab = 23; power 24 7 = IOOBE; power -1 -7 = IOOBE; power 24 2 = IOOBE",
        "power 23 7 = IAE",
        "power 23 -7 = IAE; power 23 2 = ISE");
    Edges.order(10, LONG, "power 2 7 = IOOBE; power 2 2 = IOOBE; power 1 7 = IAE; power 1 -7 = IAE; power 1 6 = ISE");
    Edges.order(12, "exponent 0 = IOOBE; word = 0; exponent 1 = IOOBE; exponent -1 = IOOBE; exponent 0 = NSEE");
    Edges.order(13, "sum 0 d = IOOBE; spell a = 0; sum 1 d = IOOBE; sum -1 #0 = IOOBE; sum 0 d = IAE");
    Edges.order(15, "often 22 word = 21; spell a = 22; spell b = 23; conjugator 24 22 = IOOBE; conjugator 22 24 = IOOBE",
        "conjugator -1 22 = IOOBE; conjugator 22 23 = NSEE; conjugator 22 0 = NSEE; conjugator 0 22 = NSEE",
        "conjugator 22 22 = ISE");
  }

  private static void groups() {
    Edges.order(17, "spell a = 0; group = 0; often 12 generate 0 0 = 1; generate 0 1 = IOOBE; generate 0 -1 = IOOBE",
        "generate 1 0 = IOOBE",
        "generate -1 -1 = IOOBE; generate 0 0 = ISE");
    Edges.order(17, LONG, "group = 0; generate 1 1 = IOOBE; generate 0 2 = IOOBE; generate 0 1 = ISE");
    Edges.order(18, "undo 0 = IOOBE; group = 0; undo 1 = IOOBE; undo -1 = IOOBE; undo 0 = UOE");
    Edges.order(21, "next 0 0 d = IOOBE; next 0 9 a = IOOBE; group = 0; next 1 9 d = IOOBE; next -1 -1 a = IOOBE",
        "next 0 9 d = IAE",
        "next 0 -1 a = IAE; next 0 0 d = IAE");
    Edges.order(24, "index 0 = IOOBE; group = 0; index 1 = IOOBE; index -1 = IOOBE; index 0 = NSEE");
    Edges.order(25, "often 23 word = 22; spell a = 23; group = 0; basis 1 0 = IOOBE; basis -1 5 = IOOBE; basis 0 0 = NSEE",
        "generate 0 23",
        "basis 1 0 = IOOBE; basis 1 7 = IOOBE; basis 0 1 = NSEE; basis 0 -1 = NSEE; basis 0 0 = ISE");
    Edges.order(25, "spell c = 0; often 30 type a; word = 1; group = 0; generate 0 0; conjugate 0 1 = 1; basis 2 0 = IOOBE",
        "basis 1 1 = NSEE",
        "basis 1 0 = ISE");
    Edges.order(26, "written 0 0 = IOOBE; spell a = 0; written 0 0 = IOOBE; group = 0; written 1 0 = IOOBE",
        "written 0 1 = IOOBE",
        "written -1 -1 = IOOBE; written 0 0 = NSEE");
    Edges.order(27, "writtenAt 0 0 -1 = IOOBE; spell a = 0; writtenAt 0 0 9 = IOOBE; group = 0; writtenAt 1 0 0 = IOOBE",
        "writtenAt 0 1 0 = IOOBE; writtenAt 0 1 -1 = IOOBE; writtenAt 1 1 9 = IOOBE; writtenAt 0 0 0 = NSEE",
        "writtenAt 0 0 -1 = NSEE");
    Edges.order(36, "count 0 21 = IOOBE; group = 0; count 1 21 = IOOBE; count -1 -1 = IOOBE; count 0 21 = IAE");
  }

  private static void groupsFromGroups() {
    String eight = "spell a = 0; often 8 group = 7";
    Edges.order(28, eight, "meet 8 0 = IOOBE; meet 0 8 = IOOBE; meet -1 -1 = IOOBE; meet 0 0 = ISE");
    Edges.order(29, eight, "join 8 0 = IOOBE; join 0 8 = IOOBE; join -1 -1 = IOOBE; join 0 0 = ISE");
    Edges.order(30, eight, "conjugate 8 0 = IOOBE; conjugate 0 1 = IOOBE; conjugate -1 -1 = IOOBE; conjugate 0 0 = ISE");
    Edges.order(31, eight, "fill 8 = IOOBE; fill -1 = IOOBE; fill 0 = ISE");
    // Neither here is the number of points looked at first.
    Edges.order(28, "spell aaaaaa = 0; spell aaaaaaa = 1; group = 0; group = 1; generate 0 0; generate 1 1",
        "meet 0 2 = IOOBE",
        "meet 2 1 = IOOBE; meet 0 1 = ISE");
    Edges.order(29, "often 20 type a; word = 0; power 0 2 = 1; spell bb = 2; group = 0; group = 1; generate 0 1",
        "generate 1 2",
        "join 0 2 = IOOBE; join 2 1 = IOOBE; join 0 1 = ISE");
    Edges.order(30, "often 20 type a; word = 0; power 0 2 = 1; spell b = 2; group = 0; generate 0 1; conjugate 1 2 = IOOBE",
        "conjugate 0 3 = IOOBE; conjugate 0 2 = ISE");
  }

  private static void maps() {
    Edges.order(38, "image 0 A 0 = IOOBE; word = 0; image 0 A 0 = IOOBE; map = 0; image 1 A 0 = IOOBE; image 0 A 1 = IOOBE",
        "image 0 d -1 = IOOBE; image -1 d 0 = IOOBE; image 0 A 0 = IAE");
    Edges.order(39, "often 24 word = 23; apply 0 0 = IOOBE; map = 0; apply 1 0 = IOOBE; apply 0 24 = IOOBE",
        "apply -1 -1 = IOOBE; apply 0 0 = ISE");
    Edges.order(39, "map = 0", LONG, "image 0 a 1 = 1; apply 1 1 = IOOBE; apply 0 2 = IOOBE; apply 0 1 = ISE");
    Edges.order(40, "often 6 map = 5; compose 6 0 = IOOBE; compose 0 6 = IOOBE; compose -1 -1 = IOOBE; compose 0 0 = ISE");
    Edges.order(40, "map = 0", LONG, "image 0 a 1 = 1; compose 0 1 = IOOBE; compose 1 0 = IOOBE; compose 0 0 = ISE");
    Edges.order(42, "often 6 map = 5; word = 0; image 5 c 0; invert 6 = IOOBE; invert -1 = IOOBE; invert 5 = UOE",
        "invert 0 = ISE");
    Edges.order(44, "growth 0 d 21 = IOOBE; map = 0; growth 1 d 0 = IOOBE; growth 1 a 21 = IOOBE; growth -1 d -1 = IOOBE",
        "growth 0 d 21 = IAE",
        "growth 0 d 0 = IAE; growth 0 a 21 = IAE");
  }

  private static void moves() {
    Edges.order(47, "often 24 word = 23; shorten 24 = IOOBE; shorten -1 = IOOBE; shorten 0 = ISE");
    Edges.order(49, "spell abAB = 0; areOfOrbit 0 1 = IOOBE; areOfOrbit 1 0 = IOOBE; areOfOrbit 0 -1 = IOOBE",
        "areOfOrbit 0 0 = UOE");
  }
}
