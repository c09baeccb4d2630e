/** Compares answers with what is due, and tells those that are not. */
final class Due {
  static final int BAD = BoundCourt.BAD, NO = BoundCourt.NO, FULL = BoundCourt.FULL, NONE = BoundCourt.NONE;
  static final int BEST = 0, NEVER = 1, ENDLESS = 2;

  private final String about;
  private int asked = 0;
  private int wrong = 0;

  Due(String about) {
    this.about = about;
  }

  void is(String call, long got, long want) {
    asked++;
    if (got != want) {
      wrong++;
      if (wrong <= 40) {
        System.out.println(about + ": " + call + " answered " + got + ", due is " + want);
      }
    }
  }

  void holds(String what, boolean does) {
    is(what, does ? 1 : 0, 1);
  }

  boolean isWrong() {
    return wrong > 0;
  }

  void close() {
    System.out.println(about + ": " + asked + " answers looked at, " + wrong + " not as due");
    if (wrong > 0) {
      System.exit(1);
    }
  }
}
