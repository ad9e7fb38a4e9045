/** Compares answers with what is due, and ends a test with exit code 1 if one is wrong. */
final class Due {
  private int wrong = 0;

  void is(String call, long got, long want) {
    if (got != want) {
      fault(call + " answered " + got + ", due is " + want);
    }
  }

  void fault(String text) {
    wrong++;
    System.out.println(text);
  }

  boolean allWell() {
    return wrong == 0;
  }

  void end(String test) {
    System.out.println(test + ": " + (wrong == 0 ? "all as due" : wrong + " not as due"));
    if (wrong != 0) {
      System.exit(1);
    }
  }
}
