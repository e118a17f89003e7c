/** Counts answers, and prints those that are not as due. */
final class Due {
  private final String of;
  private int right;
  private int wrong;

  Due(String of) {
    this.of = of;
  }

  void is(String call, long got, long want) {
    if (got == want) {
      right++;
      return;
    }
    wrong++;
    if (wrong <= 60) {
      System.out.println(of + ": " + call + " answered " + got + ", due is " + want);
    }
  }

  void holds(String what, boolean held) {
    is(what, held ? 1 : 0, 1);
  }

  /** Ends the program, with 1 if an answer was wrong, or if none was looked at. */
  void end() {
    System.out.println(of + ": " + right + " answers as due, " + wrong + " not");
    if (wrong != 0 || right == 0) {
      System.exit(1);
    }
  }
}
