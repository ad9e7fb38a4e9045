/** Compares answers with what is due, and ends a test with exit code 1 if one is wrong. */
final class Due {
  private final String place;
  private final boolean loud;
  private int wrong = 0;

  Due() {
    this("", true);
  }

  /** The place stands before each fault; a quiet one only counts. */
  Due(String place, boolean loud) {
    this.place = place;
    this.loud = loud;
  }

  void is(String call, long got, long want) {
    if (got != want) {
      fault(call + " answered " + got + ", due is " + want);
    }
  }

  void holds(String what, boolean so) {
    if (!so) {
      fault("not so: " + what);
    }
  }

  void fault(String text) {
    wrong++;
    if (loud) {
      System.out.println(place + text);
    }
  }

  int wrong() {
    return wrong;
  }

  boolean allWell() {
    return wrong == 0;
  }

  void end(String test) {
    System.out.println(test + ": " + (wrong == 0 ? "all as due" : wrong + " not as due"));
    if (wrong != 0) {
      System.exit(1);
    }
  }
}
