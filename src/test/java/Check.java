/** Counts the answers that are not as due. */
final class Check {
  private static int wrong = 0;

  private Check() {}

  static void due(String what, long got, long want) {
    if (got != want) {
      wrong++;
      System.out.println(what + " answered " + got + ", due is " + want);
    }
  }

  static void due(String what, boolean got, boolean want) {
    due(what, got ? 1 : 0, want ? 1 : 0);
  }

  static boolean anyWrong() {
    return wrong != 0;
  }

  /** The last call of a test: its exit code is 1 if an answer was wrong. */
  static void end() {
    System.out.println(wrong == 0 ? "all answers are as due" : wrong + " answers are not as due");
    if (wrong != 0) {
      System.exit(1);
    }
  }
}
