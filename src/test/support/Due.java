/** Counts answers that are not as due and ends a test with exit code 1 if there was one. */
final class Due {
  private int asked = 0;
  private int wrong = 0;
  private String run = "";

  /** Names the run that the next answers belong to. */
  void run(String name) {
    run = name;
  }

  void is(String call, long got, long want) {
    asked++;
    if (got != want) {
      wrong++;
      System.out.println(run + ": " + call + " answered " + got + ", due is " + want);
    }
  }

  void yes(String what, boolean so) {
    is(what, so ? 1 : 0, 1);
  }

  int wrong() {
    return wrong;
  }

  void end() {
    System.out.println(asked + " answers asked, " + wrong + " not as due");
    if (wrong != 0) System.exit(1);
  }
}
