/** Counts and prints the answers that are not the ones due. */
final class Check {
  private static int wrong = 0;
  private static int asked = 0;

  interface Call {
    Object run();
  }

  private Check() {}

  static String outcome(Call call) {
    try {
      return String.valueOf(call.run());
    } catch (RuntimeException thrown) {
      return "throws." + thrown.getClass().getSimpleName();
    }
  }

  /** The answer as a text, throws.TheException for one that is thrown. */
  static void due(String what, Call call, Object want) {
    String got = outcome(call);
    asked++;
    if (!got.equals(String.valueOf(want))) {
      wrong++;
      System.out.println(what + ": answered " + got + ", due is " + want);
    }
  }

  static void end(String name) {
    System.out.println(name + ": " + asked + " answers looked at, " + wrong + " not as due");
    if (wrong != 0 || asked == 0) {
      System.exit(1);
    }
  }
}
