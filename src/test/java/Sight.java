/** All that can be seen of a court, as one text. Looking leaves the court as it was. */
final class Sight {
  private final StringBuilder seen = new StringBuilder();
  private final BoundCourt x;

  private Sight(BoundCourt x) {
    this.x = x;
  }

  static String of(BoundCourt x) {
    Sight sight = new Sight(x);
    sight.counts();
    sight.columns();
    sight.rows();
    sight.rest();
    return sight.seen.toString();
  }

  private void see(String what, long answer) {
    seen.append(what).append(' ').append(answer).append("; ");
  }

  private void counts() {
    for (int what = 0; what <= 5; what++) {
      see("count(" + what + ")", x.count(what));
    }
  }

  private void columns() {
    for (int c = 0; c < x.count(0); c++) {
      for (int what = 0; what <= 3; what++) {
        see("about(" + c + ", " + what + ")", x.about(c, what));
      }
      for (int kind = 1; kind <= 2; kind++) {
        see("isOf(" + c + ", " + kind + ")", x.isOf(c, kind));
      }
      for (int part = 0; part <= 1; part++) {
        see("value(" + c + ", " + part + ")", x.value(c, part));
      }
    }
  }

  private void rows() {
    for (int r = 0; r < x.count(1); r++) {
      for (int what = 0; what < 3 + x.count(0); what++) {
        see("told(" + r + ", " + what + ")", x.told(r, what));
      }
      for (int part = 0; part <= 1; part++) {
        see("sum(" + r + ", " + part + ")", x.sum(r, part));
      }
    }
  }

  private void rest() {
    see("least(0)", x.least(0));
    see("least(1)", x.least(1));
    see("quarrel()", x.quarrel());
    see("check()", x.check());
    see("shows()", x.shows());
    int over = x.over(1);
    x.over(over);
    see("the plan is over", over);
    int pricesOver = x.pricesOver(1);
    x.pricesOver(pricesOver);
    see("prices are over", pricesOver);
  }
}
