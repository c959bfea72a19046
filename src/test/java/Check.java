import java.util.Arrays;

/** Counts the answers that are not as due. */
final class Check {
  private static int wrong = 0;
  private static String sentence = "";

  private Check() {}

  /** The words of the document that the next checks are about: a wrong answer names them. */
  static void sentence(String words) {
    sentence = "\"" + words + "\": ";
  }

  static void due(String what, long got, long want) {
    if (got != want) {
      tell(what + " answered " + got + ", due is " + want);
    }
  }

  static void due(String what, boolean got, boolean want) {
    due(what, got ? 1 : 0, want ? 1 : 0);
  }

  static void due(String what, int[] got, int[] want) {
    int at = Arrays.mismatch(got, want);
    if (at >= 0) {
      tell(what + ", number " + at + " in " + Arrays.toString(got) + ", due is "
          + Arrays.toString(want));
    }
  }

  private static void tell(String text) {
    wrong++;
    System.out.println(sentence + text);
  }

  static boolean anyWrong() {
    return wrong != 0;
  }

  /** The last call of a test: its exit code is 1 if an answer was wrong. */
  static void end() {
    System.out.println(wrong == 0 ? "all answers are as due" : wrong + " answers are not as due");
    if (wrong != 0) {
      System.exit(1);
    }
  }
}
