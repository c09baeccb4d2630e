import java.util.function.Supplier;

/** A call that is refused changes nothing: what was told, what is kept and what is in hand is afterwards as it was. */
public final class RefusedTest {
  private static final int BAD = Due.BAD, NO = Due.NO, FULL = Due.FULL, NONE = Due.NONE;
  private static final int[] NUMBERS = {Integer.MIN_VALUE, NONE, FULL, NO, BAD, -1000000001, -1000001, -100, -21, -10, -1, 0, 1, 2, 3,
      4, 5, 6, 7, 8, 10, 21, 100, 1000001, 1000000001, Integer.MAX_VALUE};
  private static final Due due = new Due("refused calls");
  private static final Calls calls = new Calls(BoundCourt.class);
  private static final int[][] refusals = new int[Calls.NAMES.length][3];

  public static void main(String[] args) {
    isSeen();
    everyRefusal("a new court", BoundCourt::new);
    everyRefusal("a half full court", RefusedTest::halfFull);
    everyRefusal("a full court, best", RefusedTest::full);
    everyRefusal("a full court, never", RefusedTest::fullAndNever);
    everyRefusal("a full court, endless", RefusedTest::fullAndEndless);
    metOftenEnough();
    due.close();
  }

  private static BoundCourt halfFull() {
    BoundCourt x = new BoundCourt();
    x.column(0, -3, NONE);
    x.column(1, -4, 5);
    x.column(2, 0, 0);
    x.partner(2, 0);
    for (int c = 0; c < 3; c++) {
      x.cost(c, 3 - 2 * c);
    }
    x.row(0, 5);
    x.row(1, -7);
    x.share(0, 0, 2);
    x.share(0, 1, 3);
    x.share(1, 2, -1);
    x.counts(1, 0);
    for (int c = 0; c < 5; c++) {
      x.put(c, c + 1);
    }
    x.over(4);
    x.price(0, -2);
    x.pricesOver(3);
    x.solve(0);
    return x;
  }

  /**
   * Five columns, each at a value within its bounds, and seven rows that are
   * just met at prices which leave nothing: so a change of any price is seen.
   */
  private static BoundCourt full() {
    BoundCourt x = new BoundCourt();
    x.column(0, -20, 20);
    x.column(0, 0, NONE);
    x.column(1, -4, 5);
    x.column(2, 0, 0);
    x.column(0, -20, NONE);
    x.partner(3, 4);
    int[] plan = {3, 5, 1, 1, -7};
    int[] costs = {5, -8, 4, -5, 1};
    for (int c = 0; c < 5; c++) {
      x.put(c, plan[c]);
      x.cost(c, costs[c]);
    }
    x.over(2);
    int[] shares = {2, 2, 2, 2, 2, 4, -2};
    int[] prices = {3, -3, 4, -5, 1, 1, 5};
    for (int r = 0; r < 7; r++) {
      x.row(2, shares[r] * plan[r % 5] / 2);
      x.share(r, r % 5, shares[r]);
      x.price(r, prices[r]);
    }
    x.pricesOver(2);
    x.solve(1);
    return x;
  }

  private static BoundCourt fullAndNever() {
    BoundCourt x = full();
    x.solve(0);
    return x;
  }

  private static BoundCourt fullAndEndless() {
    BoundCourt x = full();
    x.counts(1, 0);
    x.counts(6, 0);
    x.solve(1);
    x.counts(1, 1);
    x.counts(6, 1);
    return x;
  }

  /** Were a refused call to change something, it would be seen. */
  private static void isSeen() {
    due.is("prices show the plan", full().shows(), 0);
    due.is("best", full().least(1), 2);
    due.is("never", fullAndNever().least(1), NO);
    due.is("endless", fullAndEndless().least(1), NO);
    String before = Sight.of(full());
    for (int r = 0; r < 7; r++) {
      BoundCourt x = full();
      x.price(r, 0);
      due.holds("a price of row " + r + " is seen", !Sight.of(x).equals(before));
    }
    for (int c = 0; c < 5; c++) {
      BoundCourt x = full();
      x.put(c, 0);
      due.holds("a number of column " + c + " is seen", !Sight.of(x).equals(before));
    }
    due.holds("looking leaves all as it was", Sight.of(twiceSeen()).equals(before));
  }

  private static BoundCourt twiceSeen() {
    BoundCourt x = full();
    Sight.of(x);
    return x;
  }

  private static void everyRefusal(String name, Supplier<BoundCourt> court) {
    String before = Sight.of(court.get());
    for (int which = 0; which < Calls.NAMES.length; which++) {
      int arity = Calls.ARITIES[which];
      for (int a : arity > 0 ? NUMBERS : new int[] {0}) {
        for (int b : arity > 1 ? NUMBERS : new int[] {0}) {
          for (int c : arity > 2 ? NUMBERS : new int[] {0}) {
            refusal(name, court.get(), which, before, a, b, c);
          }
        }
      }
    }
  }

  private static void refusal(String name, BoundCourt x, int which, String before, int... args) {
    long answer = calls.ask(x, which, args);
    if (answer == BAD || answer == NO || answer == FULL) {
      refusals[which][answer == BAD ? 0 : answer == NO ? 1 : 2]++;
      String after = Sight.of(x);
      if (!after.equals(before)) {
        due.is(name + ", " + Calls.told(which, args) + " was refused, and then: " + after + " - before: " + before, 1, 0);
      } else {
        due.is(name, 0, 0);
      }
    }
  }

  /** Each refusal that the document names, and no other, was met. */
  private static void metOftenEnough() {
    String never = " quarrel check shows ";
    String no = " bound partner least value take ";
    String full = " column row ";
    for (int which = 0; which < Calls.NAMES.length; which++) {
      String name = Calls.NAMES[which];
      String word = " " + name + " ";
      due.holds(name + " is BAD", refusals[which][0] > 0 == !(never + " take ").contains(word));
      due.holds(name + " is NO", refusals[which][1] > 0 == no.contains(word));
      due.holds(name + " is FULL", refusals[which][2] > 0 == full.contains(word));
    }
  }
}
