import java.util.Random;

/** Promises 18 to 25: the plan and the prices in hand. */
public final class HandTest {
  private static final int BAD = Due.BAD, NO = Due.NO, NONE = Due.NONE;
  private static final int[] OUT = {-1, 7, Integer.MIN_VALUE, Integer.MAX_VALUE, NONE};
  private static final Due due = new Due("in hand");

  public static void main(String[] args) {
    puttingAndOver();
    taking();
    prices();
    checking();
    showing();
    sums();
    edges();
    randomHands(new Random(7L));
    due.close();
  }

  private static void puttingAndOver() {
    BoundCourt x = new BoundCourt();
    x.column(0, -20, NONE);
    x.row(0, 0);
    x.share(0, 0, 1);
    for (int c : OUT) {
      due.is("18: put(" + c + ", 0)", x.put(c, 0), BAD);
    }
    due.is("18: put(5, 0)", x.put(5, 0), BAD);
    for (int v : new int[] {1000000001, -1000000001, Integer.MAX_VALUE, Integer.MIN_VALUE, NONE}) {
      due.is("18: put(0, " + v + ")", x.put(0, v), BAD);
    }
    due.is("18: refused, it is 0", x.sum(0, 0), 0);
    due.is("18: put(0, 1000000000)", x.put(0, 1000000000), 0);
    due.is("18: it is", x.sum(0, 0), 1000000000);
    due.is("18: put(0, -1000000000)", x.put(0, -1000000000), 0);
    due.is("18: it is", x.sum(0, 0), -1000000000);
    due.is("18: put(4, 3)", x.put(4, 3), 0);
    for (int n : new int[] {0, -1, 1000001, Integer.MAX_VALUE, Integer.MIN_VALUE, NONE}) {
      due.is("19: over(" + n + ")", x.over(n), BAD);
      due.is("22: pricesOver(" + n + ")", x.pricesOver(n), BAD);
    }
    due.is("19: over(1000000)", x.over(1000000), 1);
    due.is("19: over(3)", x.over(3), 1000000);
    due.is("19: above", x.sum(0, 0), -1000000000);
    due.is("19: below", x.sum(0, 1), 3);
    due.is("19: over(1)", x.over(1), 3);
    for (int c = 1; c < 5; c++) {
      x.column(0, -20, NONE);
      x.share(0, c, 1);
    }
    due.is("18: a column that came later has its number", x.sum(0, 0), -999999997);
  }

  private static void taking() {
    BoundCourt x = new BoundCourt();
    due.is("20: nothing was solved", x.take(), NO);
    x.column(0, 0, 20);
    x.column(0, 0, 20);
    x.column(1, 2, 3);
    for (int r = 0; r < 2; r++) {
      x.row(2, 7);
      x.share(r, r, r == 0 ? 4 : 6);
    }
    x.solve(0);
    x.put(3, 9);
    x.put(4, 9);
    x.over(5);
    // 7/4, 7/6, 2: over 12
    due.is("20: take()", x.take(), 12);
    due.is("20: it is right", x.check(), 0);
    due.is("20: over(12)", x.over(12), 12);
    x.row(0, 0);
    x.share(2, 0, 1);
    due.is("20: sum above", x.sum(2, 0), 7);
    due.is("20: sum below", x.sum(2, 1), 4);
    x.column(0, 0, 0);
    x.column(0, 0, 0);
    x.counts(2, 0);
    due.is("20: columns that it has not are 0", x.check(), 0);
    x.put(0, 5);
    x.number(0, 99);
    x.solve(0);
    due.is("20: never", x.take(), NO);
    due.is("20: what was in hand stays", x.sum(2, 0), 5);
    due.is("20: over what it was", x.over(1), 12);
  }

  private static void prices() {
    BoundCourt x = new BoundCourt();
    for (int r : OUT) {
      due.is("21: price(" + r + ", 0)", x.price(r, 0), BAD);
    }
    for (int v : new int[] {1000001, -1000001, NONE, Integer.MAX_VALUE}) {
      due.is("21: price(0, " + v + ")", x.price(0, v), BAD);
    }
    due.is("21: price(6, 1000000)", x.price(6, 1000000), 0);
    due.is("21: price(0, -1000000)", x.price(0, -1000000), 0);
    due.is("22: pricesOver(1000000)", x.pricesOver(1000000), 1);
    due.is("22: pricesOver(2)", x.pricesOver(2), 1000000);
    due.is("24: rows that are not there have no say", x.shows(), 0);
    x.row(2, 0);
    x.column(0, 0, 5);
    x.cost(0, 3);
    x.share(0, 0, 1);
    x.price(0, 6);
    x.put(0, 0);
    due.is("22: 3 - 6/2 is nothing", x.shows(), 0);
    x.counts(0, 0);
    due.is("22: the row rests, 3 is left, at the least value", x.shows(), 0);
    x.put(0, 4);
    due.is("22: and elsewhere", x.shows(), 3);
    x.counts(0, 1);
    x.number(0, 4);
    due.is("22: nothing is left", x.shows(), 0);
    x.pricesOver(1);
    due.is("22: 3 - 6 is left", x.shows(), 3);
  }

  private static void checking() {
    BoundCourt x = new BoundCourt();
    x.column(0, -2, 5);
    x.column(1, -3, 3);
    x.column(2, 0, 0);
    x.row(0, 4);
    x.row(1, -4);
    x.row(2, 1);
    for (int c = 0; c < 2; c++) {
      x.share(0, c, 1);
      x.share(1, c, 1);
    }
    x.share(2, 2, 1);
    x.put(2, 1);
    due.is("23: right", x.check(), 0);
    x.put(0, 6);
    due.is("23: above", x.check(), 1);
    x.put(0, -3);
    due.is("23: below", x.check(), 1);
    x.put(0, 5);
    due.is("23: a row at most", x.check(), 100);
    x.put(0, -2);
    x.put(1, -3);
    due.is("23: a row at least", x.check(), 101);
    x.put(1, 0);
    x.put(2, 0);
    due.is("23: a row just", x.check(), 102);
    x.counts(2, 0);
    due.is("23: it rests", x.check(), 0);
    x.partner(2, 0);
    due.is("23: its partner should be 0", x.check(), 3);
    x.put(0, 0);
    due.is("23: it is", x.check(), 0);
    x.put(2, 2);
    due.is("23: a switch above 1", x.check(), 3);
    x.put(2, 1);
    x.put(1, 1);
    x.over(2);
    due.is("23: not whole", x.check(), 2);
    x.put(1, -2);
    due.is("23: the switch is not", x.check(), 3);
    x.put(2, 2);
    x.put(0, 3);
    due.is("23: plain ones need not be", x.check(), 0);
    x.put(0, -5);
    x.put(1, 1);
    due.is("23: the first one", x.check(), 1);
    x.put(3, 99);
    x.put(4, 99);
    x.put(0, 0);
    x.put(1, 0);
    due.is("23: columns that are not there", x.check(), 0);
  }

  private static void showing() {
    BoundCourt x = new BoundCourt();
    x.column(1, 0, 9);
    x.column(0, 0, NONE);
    x.cost(0, -2);
    x.cost(1, -1);
    x.row(0, 3);
    x.row(1, 1);
    x.share(0, 0, 2);
    x.share(0, 1, 1);
    x.share(1, 0, 1);
    x.share(1, 1, 1);
    x.put(0, 1);
    x.put(1, 1);
    x.price(0, -1);
    due.is("24: shown", x.shows(), 0);
    x.put(0, 1);
    x.put(1, 4);
    x.over(2);
    due.is("24: fractions are let", x.shows(), 0);
    x.price(0, 1);
    x.price(1, -1);
    x.put(1, 5);
    due.is("24: 1 comes first", x.shows(), 1);
    x.put(1, 4);
    due.is("24: 2 at most", x.shows(), 2);
    x.price(0, -1);
    due.is("24: 2 at least", x.shows(), 2);
    x.counts(1, 0);
    due.is("24: a row that rests", x.shows(), 0);
    x.counts(1, 1);
    x.price(1, 1);
    due.is("24: 3 before 4", x.shows(), 3);
    x.price(1, 0);
    due.is("24: shown again", x.shows(), 0);
    x.cost(0, 0);
    due.is("24: 3 what is left is above 0", x.shows(), 3);
    x.put(0, 0);
    x.put(1, 6);
    due.is("24: at the least value it may", x.shows(), 0);
    x.cost(0, -2);
    x.cost(1, -2);
    due.is("24: 3 below 0, and there is no greatest", x.shows(), 3);
    x.bound(1, 0, 3);
    due.is("24: at the greatest value it may", x.shows(), 0);
    x.cost(1, -1);
    x.number(0, 4);
    due.is("24: 4", x.shows(), 4);
    x.price(0, 0);
    x.cost(0, 0);
    x.cost(1, 0);
    due.is("24: no prices, no costs", x.shows(), 0);
    x.number(0, 2);
    due.is("24: 1 again", x.shows(), 1);
    x.counts(0, 0);
    due.is("24: it rests", x.shows(), 0);
    x.put(0, -1);
    due.is("24: 1 out of bounds", x.shows(), 1);
  }

  private static void sums() {
    BoundCourt x = new BoundCourt();
    for (int r : OUT) {
      due.is("25: sum(" + r + ", 0)", x.sum(r, 0), BAD);
    }
    due.is("25: sum(0, 0)", x.sum(0, 0), BAD);
    x.row(0, 0);
    due.is("25: sum(0, 2)", x.sum(0, 2), BAD);
    due.is("25: sum(0, -1)", x.sum(0, -1), BAD);
    due.is("25: nothing above", x.sum(0, 0), 0);
    x.over(9);
    due.is("25: nothing below", x.sum(0, 1), 1);
    for (int c = 0; c < 5; c++) {
      x.column(0, 0, 1);
      x.share(0, c, -9);
      x.put(c, 1000000000);
    }
    due.is("25: the largest above", x.sum(0, 0), -5000000000L);
    due.is("25: the largest below", x.sum(0, 1), 1);
    x.over(1000000);
    due.is("25: the largest above", x.sum(0, 0), -45000L);
    x.counts(0, 0);
    x.put(0, 1);
    due.is("25: a row that rests, above", x.sum(0, 0), -36000000009L);
    due.is("25: a row that rests, below", x.sum(0, 1), 1000000);
  }

  private static void edges() {
    BoundCourt x = new BoundCourt();
    x.column(0, -20, 20);
    x.over(1000000);
    x.put(0, 20000000);
    due.is("23: at the greatest", x.check(), 0);
    x.put(0, 20000001);
    due.is("23: a millionth above it", x.check(), 1);
    x.put(0, -20000000);
    due.is("23: at the least", x.check(), 0);
    x.put(0, -20000001);
    due.is("23: a millionth below it", x.check(), 1);
    x.put(0, 1000000000);
    due.is("23: far above", x.check(), 1);
  }

  /** The hand is looked at once more, with numbers that cannot run over. */
  private static void randomHands(Random random) {
    int[] told = new int[5];
    Model.Draw draw = new Model.Draw();
    draw.factor = 3;
    draw.mostColumns = 3;
    draw.mostRows = 3;
    for (int i = 0; i < 20000; i++) {
      Model m = Model.random(random, draw);
      BoundCourt x = m.told();
      int below = Model.between(random, 1, 2);
      int pricesBelow = Model.between(random, 1, 2);
      long[] plan = new long[5];
      int[] prices = new int[7];
      x.over(below);
      x.pricesOver(pricesBelow);
      for (int c = 0; c < 5; c++) {
        int v = (m.least[c] + random.nextInt(3)) * below + (random.nextInt(5) == 0 ? 1 : 0);
        plan[c] = v;
        x.put(c, v);
      }
      for (int r = 0; r < 7; r++) {
        prices[r] = random.nextInt(3) == 0 ? Model.between(random, -2, 2) : 0;
        x.price(r, prices[r]);
      }
      due.is("23: check of " + m, x.check(), HandOracle.check(m, plan, below));
      int shows = HandOracle.shows(m, plan, below, prices, pricesBelow);
      told[shows]++;
      due.is("24: shows of " + m, x.shows(), shows);
      for (int r = 0; r < m.rows; r++) {
        for (int part = 0; part <= 1; part++) {
          due.is("25: sum of " + m, x.sum(r, part), HandOracle.sum(m, r, plan, below, part));
        }
      }
    }
    for (int what = 0; what < 5; what++) {
      due.holds("24: " + what + " is met often enough", told[what] > 100);
    }
  }
}
