/** Promises 13 to 17: solving, what is kept of it, and quarrels. */
public final class SolvingTest {
  private static final int BAD = Due.BAD, NO = Due.NO, NONE = Due.NONE;
  private static final int BEST = Due.BEST, NEVER = Due.NEVER, ENDLESS = Due.ENDLESS;
  private static final Due due = new Due("solving");

  public static void main(String[] args) {
    refusals();
    nothingAtAll();
    tiesGoToTheFirstColumns();
    tiesOfColumnsWithoutEnd();
    tiesUpToTheLastColumn();
    fractions();
    wholeValues();
    switches();
    chainsOfSwitches();
    endless();
    isKept();
    worthOfNumbers();
    columnsThatCameBehind();
    quarrels();
    quarrelsOfManyRows();
    farCorners();
    oddNumbersForEvenSums();
    due.close();
  }

  private static void row(BoundCourt x, int kind, int number, int... shares) {
    int r = x.row(kind, number);
    for (int c = 0; c < shares.length; c++) {
      x.share(r, c, shares[c]);
    }
  }

  private static void is(String what, BoundCourt x, int column, long above, long below) {
    due.is(what + ", value " + column + " above", x.value(column, 0), above);
    due.is(what + ", value " + column + " below", x.value(column, 1), below);
  }

  private static void costs(String what, BoundCourt x, long above, long below) {
    due.is(what + ", least above", x.least(0), above);
    due.is(what + ", least below", x.least(1), below);
  }

  private static void refusals() {
    BoundCourt x = new BoundCourt();
    x.column(0, 0, 5);
    x.row(0, 3);
    for (int v : new int[] {-1, 2, NONE, Integer.MAX_VALUE}) {
      due.is("13: solve(" + v + ")", x.solve(v), BAD);
      due.is("14: worth(0, 0, " + v + ")", x.worth(0, 0, v), BAD);
      due.is("14: worth(" + v + ", 0, 0)", x.worth(v, 0, 0), BAD);
      due.is("15: least(" + v + ")", x.least(v), BAD);
      due.is("16: value(0, " + v + ")", x.value(0, v), BAD);
      due.is("16: value(" + v + ", 0)", x.value(v, 0), BAD);
    }
    due.is("14: worth(0, 100, 0)", x.worth(0, 100, 0), BAD);
    due.is("14: worth(0, -100, 0)", x.worth(0, -100, 0), BAD);
    due.is("14: worth(1, 0, 0)", x.worth(1, 0, 0), BAD);
    due.is("15: least(0)", x.least(0), NO);
    due.is("16: value(0, 0)", x.value(0, 0), NO);
    due.is("16: value(1, 0)", x.value(1, 0), BAD);
    due.is("26: refused calls are not counted", x.count(5), 0);
  }

  private static void nothingAtAll() {
    BoundCourt x = new BoundCourt();
    due.is("13: nothing, solve(1)", x.solve(1), BEST);
    costs("15: nothing", x, 0, 1);
    due.is("20: nothing, take()", x.take(), 1);
    x.row(0, 0);
    due.is("13: a row that asks 0 <= 0", x.solve(0), BEST);
    x.number(0, -1);
    due.is("13: a row that asks 0 <= -1", x.solve(0), NEVER);
    due.is("17: it quarrels alone", x.quarrel(), 1);
    due.is("14: the number 1 more", x.worth(0, 1, 0), BEST);
    x.counts(0, 0);
    due.is("13: it rests", x.solve(1), BEST);
    due.is("17: it rests", x.quarrel(), 0);
  }

  private static void tiesGoToTheFirstColumns() {
    BoundCourt x = new BoundCourt();
    x.column(0, 0, 20);
    x.column(0, 0, 20);
    x.column(0, 0, 4);
    x.cost(0, 1);
    x.cost(1, 1);
    x.cost(2, 1);
    row(x, 1, 6, 1, 1, 1);
    due.is("13: a tie", x.solve(1), BEST);
    costs("15: a tie", x, 6, 1);
    is("16: a tie", x, 0, 0, 1);
    is("16: a tie", x, 1, 2, 1);
    is("16: a tie", x, 2, 4, 1);
    for (int c = 0; c < 3; c++) {
      x.cost(c, 0);
    }
    row(x, 2, 7, 0, 0, 2);
    due.is("13: no costs", x.solve(1), BEST);
    costs("15: no costs", x, 0, 1);
    is("16: no costs", x, 0, 0, 1);
    is("16: no costs", x, 1, 5, 2);
    is("16: no costs", x, 2, 7, 2);
    due.is("13: not whole, so not strictly different", x.solve(0), BEST);
    is("16: plain ones", x, 2, 7, 2);
  }

  private static void tiesOfColumnsWithoutEnd() {
    BoundCourt x = new BoundCourt();
    x.column(0, 0, NONE);
    x.column(0, 0, NONE);
    x.column(0, 0, NONE);
    for (int c = 0; c < 3; c++) {
      x.cost(c, -1);
    }
    row(x, 0, 5, 1, 1, 1);
    due.is("13: all fall alike", x.solve(1), BEST);
    costs("15: all fall alike", x, -5, 1);
    is("16: all fall alike", x, 0, 0, 1);
    is("16: all fall alike", x, 1, 0, 1);
    is("16: all fall alike", x, 2, 5, 1);
    row(x, 0, 2, 0, 0, 1);
    due.is("13: and one is held", x.solve(0), BEST);
    is("16: and one is held", x, 1, 3, 1);
  }

  private static void tiesUpToTheLastColumn() {
    BoundCourt x = new BoundCourt();
    x.column(2, 0, 1);
    x.column(2, 0, 1);
    x.column(0, 1, 8);
    x.partner(0, 2);
    x.partner(1, 0);
    x.cost(1, 5);
    row(x, 0, 14, -8, 2, 6);
    row(x, 1, 6, 0, 9, -1);
    row(x, 1, 25, 1, 3, 8);
    due.is("13: the last column decides", x.solve(0), BEST);
    is("16: the last column decides", x, 2, 21, 8);
  }

  private static void fractions() {
    BoundCourt x = new BoundCourt();
    x.column(0, -20, NONE);
    x.column(0, -20, NONE);
    x.cost(0, -1);
    x.cost(1, -1);
    row(x, 0, -10, 7, 3);
    row(x, 0, -11, 2, 9);
    due.is("13: below 0", x.solve(1), BEST);
    // 7a + 3b = -10 and 2a + 9b = -11: a = -1, b = -1
    costs("15: below 0", x, 2, 1);
    x.number(1, 5);
    due.is("13: a fraction", x.solve(1), BEST);
    // a = (-90 - 15) / 57, b = (35 + 20) / 57
    is("16: in lowest terms", x, 0, -35, 19);
    is("16: in lowest terms", x, 1, 55, 57);
    costs("15: in lowest terms", x, 50, 57);
    due.is("20: over the least number for both", x.take(), 57);
    due.is("23: it is right", x.check(), 0);
  }

  private static void wholeValues() {
    BoundCourt x = new BoundCourt();
    x.column(1, -5, 4);
    x.column(1, -5, 4);
    x.cost(0, 3);
    x.cost(1, 5);
    row(x, 1, 7, 6, 4);
    row(x, 2, 1, 2, 3);
    due.is("13: loosely", x.solve(1), BEST);
    is("16: loosely", x, 0, 4, 1);
    is("16: loosely", x, 1, -7, 3);
    due.is("13: strictly", x.solve(0), BEST);
    is("16: strictly", x, 0, 2, 1);
    is("16: strictly", x, 1, -1, 1);
    costs("15: strictly", x, 1, 1);
    x.bound(0, -5, 1);
    due.is("13: strictly, out of reach", x.solve(0), NEVER);
  }

  private static void switches() {
    BoundCourt x = new BoundCourt();
    x.column(2, 0, 0);
    x.column(0, 3, 10);
    x.cost(0, 9);
    x.partner(0, 1);
    due.is("13: a partner that cannot be 0", x.solve(0), BEST);
    is("16: its switch is on", x, 0, 1, 1);
    costs("15: and costs", x, 9, 1);
    due.is("13: loosely there are no partners", x.solve(1), BEST);
    costs("15: loosely", x, 0, 1);
    x.bound(1, 1, 8);
    x.cost(1, -1);
    due.is("13: a partner that would rather be high", x.solve(0), BEST);
    costs("15: a partner that would rather be high", x, 1, 1);
    x.cost(1, 0);
    x.bound(1, -4, -2);
    due.is("13: a partner below 0", x.solve(0), BEST);
    is("16: its switch is on", x, 0, 1, 1);
    row(x, 0, 0, 1);
    due.is("13: the switch may not be on", x.solve(0), NEVER);
    due.is("17: which is no quarrel", x.quarrel(), 0);
    x.bound(1, -4, 6);
    x.cost(1, 1);
    due.is("13: the partner may be 0", x.solve(0), BEST);
    is("16: it is", x, 1, 0, 1);
    x.partner(0, NONE);
    due.is("13: without a partner", x.solve(0), BEST);
    is("16: it goes down", x, 1, -4, 1);
  }

  private static void chainsOfSwitches() {
    BoundCourt x = new BoundCourt();
    x.column(2, 0, 0);
    x.column(2, 0, 0);
    x.column(0, 0, 20);
    x.partner(0, 1);
    x.partner(1, 2);
    x.cost(0, 4);
    x.cost(1, 5);
    x.cost(2, -1);
    due.is("13: a chain", x.solve(0), BEST);
    costs("15: a chain pays", x, -11, 1);
    x.bound(2, 0, 8);
    due.is("13: a chain that does not pay", x.solve(0), BEST);
    costs("15: a chain that does not pay", x, 0, 1);
    is("16: a chain that does not pay", x, 2, 0, 1);
    x.partner(1, 0);
    x.cost(1, -6);
    due.is("13: each the other's partner", x.solve(0), BEST);
    is("16: both on", x, 0, 1, 1);
    is("16: both on", x, 1, 1, 1);
    costs("15: both on", x, -10, 1);
  }

  private static void endless() {
    BoundCourt x = new BoundCourt();
    x.column(0, 0, NONE);
    x.column(0, 0, NONE);
    x.column(2, 0, 0);
    x.cost(0, -1);
    x.cost(1, 2);
    due.is("13: one falls alone", x.solve(0), ENDLESS);
    due.is("15: least(0)", x.least(0), NO);
    due.is("16: value(0, 0)", x.value(0, 0), NO);
    row(x, 0, 5, 2, -1);
    due.is("13: falling costs as much", x.solve(0), BEST);
    x.cost(1, 0);
    due.is("13: the other one pays for nothing", x.solve(1), ENDLESS);
    x.partner(2, 1);
    due.is("13: a switch may be on", x.solve(0), ENDLESS);
    row(x, 0, 0, 0, 0, 1);
    due.is("13: a switch may not be on", x.solve(0), BEST);
    costs("15: a switch may not be on", x, -5, 2);
    due.is("13: loosely it is of no use", x.solve(1), ENDLESS);
    row(x, 1, 5, 0, 0, 1);
    due.is("13: endless, but no plan at all", x.solve(1), NEVER);
    x.counts(2, 0);
    x.cost(0, 0);
    x.cost(1, 0);
    due.is("13: no end to plans, but to cost", x.solve(1), BEST);
    costs("15: no end to plans", x, 0, 1);
  }

  private static void isKept() {
    BoundCourt x = new BoundCourt();
    x.column(0, 2, 8);
    x.cost(0, 3);
    x.row(1, 5);
    x.share(0, 0, 1);
    x.solve(0);
    x.cost(0, -3);
    x.bound(0, 7, 8);
    x.counts(0, 0);
    x.solve(5);
    x.worth(0, 100, 0);
    x.quarrel();
    costs("13: kept, though the program is another one", x, 15, 1);
    is("13: kept", x, 0, 5, 1);
    due.is("13: the next", x.solve(0), BEST);
    costs("13: the next", x, -24, 1);
    x.counts(0, 1);
    due.is("14: one that is never", x.worth(0, 4, 0), NEVER);
    due.is("15: least(0)", x.least(0), NO);
    due.is("15: least(3)", x.least(3), BAD);
    due.is("16: value(0, 1)", x.value(0, 1), NO);
    due.is("20: take()", x.take(), NO);
  }

  private static void worthOfNumbers() {
    BoundCourt x = new BoundCourt();
    x.column(0, -20, NONE);
    x.cost(0, 2);
    row(x, 1, 99, 4);
    due.is("14: beyond its bounds", x.worth(0, 99, 0), BEST);
    costs("14: beyond its bounds", x, 99, 1);
    is("14: beyond its bounds", x, 0, 99, 2);
    due.is("14: the number is as it was", x.told(0, 1), 99);
    due.is("14: less", x.worth(0, -99, 1), BEST);
    is("14: less", x, 0, 0, 1);
    x.counts(0, 0);
    due.is("14: a row that rests", x.worth(0, 99, 1), BEST);
    is("14: a row that rests", x, 0, -20, 1);
    due.is("14: it rests still", x.told(0, 2), 0);
    x.counts(0, 1);
    due.is("14: nothing more", x.worth(0, 0, 0), BEST);
    costs("14: nothing more", x, 99, 2);
    due.is("26: count(5)", x.count(5), 4);
  }

  private static void columnsThatCameBehind() {
    BoundCourt x = new BoundCourt();
    x.column(0, 3, 8);
    x.solve(0);
    due.is("16: no such column", x.value(1, 0), BAD);
    x.column(0, 5, 6);
    is("16: it came behind", x, 1, 0, 1);
    x.put(1, 77);
    x.put(4, 55);
    due.is("20: take()", x.take(), 1);
    due.is("23: a column that the plan has not", x.check(), 2);
    x.row(0, 50);
    x.share(0, 1, 1);
    due.is("25: it is 0", x.sum(0, 0), 0);
  }

  private static void quarrels() {
    BoundCourt x = new BoundCourt();
    x.column(0, 0, 10);
    x.column(1, 0, 9);
    row(x, 1, 8, 1, 1);
    row(x, 0, 3, 1);
    row(x, 0, 4, 0, 1);
    due.is("17: three", x.quarrel(), 7);
    row(x, 2, 6, 1);
    due.is("17: two are fewer", x.quarrel(), 0b1010);
    x.row(1, 18);
    x.share(4, 1, 2);
    due.is("17: of several the least number", x.quarrel(), 0b1010);
    x.counts(3, 0);
    due.is("17: one rests", x.quarrel(), 0b10100);
    x.number(4, 19);
    due.is("17: one alone", x.quarrel(), 0b10000);
    x.number(4, 18);
    due.is("17: just not alone", x.quarrel(), 0b10100);
    x.number(4, 7);
    due.is("17: fractions are let", x.quarrel(), 0b00111);
    x.number(0, 7);
    due.is("17: peace", x.quarrel(), 0);
    due.is("26: quarrel() is no solving", x.count(5), 0);
  }

  /** In five columns six rows can quarrel though any five of them do not. */
  private static void quarrelsOfManyRows() {
    BoundCourt x = new BoundCourt();
    for (int c = 0; c < 5; c++) {
      x.column(0, -20, 20);
    }
    row(x, 0, 99, 9, 9, 9, 9, 9);
    for (int c = 0; c < 5; c++) {
      int[] one = new int[5];
      one[c] = 1;
      row(x, 1, 1, one);
    }
    row(x, 0, 4, 1, 1, 1, 1, 1);
    due.is("17: six rows", x.quarrel(), 0b1111110);
    x.number(6, 5);
    due.is("17: no more", x.quarrel(), 0);
    x.number(6, -99);
    // five times the least is -100, so one value at 1 is too much
    due.is("17: all values are near their least", x.quarrel(), 0b1000010);
  }

  /** Large determinants: what is told is exact. */
  private static void farCorners() {
    BoundCourt x = new BoundCourt();
    for (int c = 0; c < 5; c++) {
      x.column(0, -20, NONE);
      x.cost(c, -9);
    }
    int[][] shares = {{9, 9, 9, 9, 8}, {-9, 9, 9, -9, 9}, {9, -9, 9, -8, 9}, {9, 9, -9, 9, -7}, {-9, 9, -9, -9, 9}};
    for (int r = 0; r < 5; r++) {
      row(x, 0, 99 - r, shares[r]);
    }
    int outcome = x.worth(0, 99, 1);
    Model m = new Model();
    m.columns = 5;
    m.rows = 5;
    for (int c = 0; c < 5; c++) {
      m.least[c] = -20;
      m.greatest[c] = NONE;
      m.cost[c] = -9;
      m.partner[c] = NONE;
    }
    for (int r = 0; r < 5; r++) {
      m.counts[r] = 1;
      m.number[r] = r == 0 ? 198 : 99 - r;
      m.share[r] = shares[r];
    }
    Oracle.Answer want = Oracle.solve(m, false);
    due.is("13: far corners", outcome, want.outcome);
    due.is("13: far corners are best", outcome, BEST);
    due.is("15: far corners", x.least(0) * want.plan.below, want.plan.cost * x.least(1));
    for (int c = 0; c < 5; c++) {
      due.is("16: far corners " + c, x.value(c, 0) * want.plan.below, want.plan.values[c] * x.value(c, 1));
    }
  }

  private static void oddNumbersForEvenSums() {
    BoundCourt x = new BoundCourt();
    for (int c = 0; c < 5; c++) {
      x.column(1, 0, 9);
      x.cost(c, -c);
    }
    row(x, 2, 41, 2, 2, 2, 2, 2);
    due.is("13: just odd", x.solve(0), NEVER);
    x.counts(0, 0);
    row(x, 0, 41, 2, 2, 2, 2, 2);
    row(x, 1, 39, 2, 2, 2, 2, 2);
    due.is("13: between two odd ones", x.solve(0), BEST);
    costs("15: between two odd ones", x, -9 * 4 - 9 * 3 - 2 * 2, 1);
    is("16: between two odd ones", x, 2, 2, 1);
    x.number(1, -41);
    x.number(2, -39);
    due.is("13: at most -41, at least -39", x.solve(0), NEVER);
    x.counts(1, 0);
    x.column(0, 0, 0);
    due.is("13: at least -39", x.solve(0), BEST);
  }
}
