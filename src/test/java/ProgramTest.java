/** Promises 1 to 12 and 26: columns, rows and what is told of them. */
public final class ProgramTest {
  private static final int BAD = Due.BAD, NO = Due.NO, FULL = Due.FULL, NONE = Due.NONE;
  private static final int[] OUT = {-1, 5, 7, 100, Integer.MIN_VALUE, Integer.MAX_VALUE, BAD, NO, FULL, NONE};
  private static final Due due = new Due("the program");

  public static void main(String[] args) {
    aNewObject();
    columns();
    bounds();
    partners();
    costs();
    rows();
    shares();
    numbers();
    counting();
    kinds();
    aboutColumns();
    toldOfRows();
    counted();
    due.close();
  }

  private static BoundCourt three() {
    BoundCourt x = new BoundCourt();
    x.column(0, -3, NONE);
    x.column(1, -9, 0);
    x.column(2, 0, 0);
    return x;
  }

  private static void aNewObject() {
    BoundCourt x = new BoundCourt();
    for (int what = 0; what <= 5; what++) {
      due.is("1: count(" + what + ")", x.count(what), 0);
    }
    due.is("1: least(0)", x.least(0), NO);
    due.is("1: least(1)", x.least(1), NO);
    due.is("1: least(2)", x.least(2), BAD);
    due.is("1: take()", x.take(), NO);
    due.is("1: value(0, 0)", x.value(0, 0), BAD);
    due.is("1: about(0, 0)", x.about(0, 0), BAD);
    due.is("1: told(0, 0)", x.told(0, 0), BAD);
    due.is("1: quarrel()", x.quarrel(), 0);
    due.is("1: check()", x.check(), 0);
    due.is("1: shows()", x.shows(), 0);
    due.is("1: over(7)", x.over(7), 1);
    due.is("1: pricesOver(7)", x.pricesOver(7), 1);
    BoundCourt y = new BoundCourt();
    y.column(0, 0, 0);
    due.is("1: another object's count(0)", x.count(0), 0);
  }

  private static void columns() {
    BoundCourt x = new BoundCourt();
    int[][] bad = {{-1, 0, 1}, {3, 0, 1}, {NONE, 0, 1}, {0, -21, 0}, {0, 21, 21}, {0, 21, NONE}, {0, 0, 21}, {0, 3, 2},
        {0, 0, BAD}, {0, NONE, NONE}, {0, NONE, 0}, {1, 0, NONE}, {1, 0, 10}, {1, 11, 21}, {1, -21, -20}, {1, 2, 1},
        {1, -20, 20}, {0, Integer.MIN_VALUE, 0}, {0, 0, Integer.MAX_VALUE}, {1, Integer.MIN_VALUE, Integer.MAX_VALUE}};
    for (int[] b : bad) {
      due.is("2: column(" + b[0] + ", " + b[1] + ", " + b[2] + ")", x.column(b[0], b[1], b[2]), BAD);
    }
    due.is("2: nothing came of them, count(0)", x.count(0), 0);
    due.is("2: column(0, -20, 20)", x.column(0, -20, 20), 0);
    due.is("2: column(0, 20, NONE)", x.column(0, 20, NONE), 1);
    due.is("2: column(1, 11, 20)", x.column(1, 11, 20), 2);
    due.is("2: column(1, -20, -20)", x.column(1, -20, -20), 3);
    due.is("2: column(2, 99, -99)", x.column(2, 99, -99), 4);
    due.is("2: a sixth, column(2, 0, 0)", x.column(2, 0, 0), FULL);
    due.is("2: a sixth, column(0, 0, 1)", x.column(0, 0, 1), FULL);
    due.is("2: a sixth and bad, column(3, 0, 1)", x.column(3, 0, 1), BAD);
    due.is("2: a sixth and bad, column(1, 0, 10)", x.column(1, 0, 10), BAD);
    due.is("2: count(0)", x.count(0), 5);
    due.is("2: a switch's least", x.about(4, 0), 0);
    due.is("2: a switch's greatest", x.about(4, 1), 1);
    due.is("2: no greatest", x.about(1, 1), NONE);
    due.is("2: a least", x.about(2, 0), 11);
    due.is("2: a cost at first", x.about(2, 2), 0);
    due.is("2: a partner at first", x.about(4, 3), NONE);
  }

  private static void bounds() {
    BoundCourt x = three();
    for (int c : OUT) {
      due.is("3: bound(" + c + ", 0, 1)", x.bound(c, 0, 1), BAD);
    }
    due.is("3: bound(3, 0, 1)", x.bound(3, 0, 1), BAD);
    due.is("3: bound(2, 0, 1)", x.bound(2, 0, 1), NO);
    due.is("3: bound(2, 99, -99)", x.bound(2, 99, -99), NO);
    due.is("3: bound(1, 0, NONE)", x.bound(1, 0, NONE), BAD);
    due.is("3: bound(1, 0, 10)", x.bound(1, 0, 10), BAD);
    due.is("3: bound(1, 5, 4)", x.bound(1, 5, 4), BAD);
    due.is("3: bound(0, -21, 4)", x.bound(0, -21, 4), BAD);
    due.is("3: bound(0, 0, 21)", x.bound(0, 0, 21), BAD);
    due.is("3: refused, the least", x.about(1, 0), -9);
    due.is("3: refused, the greatest", x.about(1, 1), 0);
    due.is("3: bound(1, 3, 12)", x.bound(1, 3, 12), 0);
    due.is("3: its least", x.about(1, 0), 3);
    due.is("3: its greatest", x.about(1, 1), 12);
    due.is("3: bound(0, -20, 20)", x.bound(0, -20, 20), 0);
    due.is("3: its greatest", x.about(0, 1), 20);
    due.is("3: bound(0, 20, NONE)", x.bound(0, 20, NONE), 0);
    due.is("3: its greatest", x.about(0, 1), NONE);
  }

  private static void partners() {
    BoundCourt x = three();
    for (int c : OUT) {
      due.is("4: partner(" + c + ", 0)", x.partner(c, 0), BAD);
      if (c != NONE) {
        due.is("4: partner(2, " + c + ")", x.partner(2, c), BAD);
        due.is("4: partner(0, " + c + ")", x.partner(0, c), BAD);
      }
    }
    due.is("4: partner(NONE, NONE)", x.partner(NONE, NONE), BAD);
    due.is("4: partner(2, 2)", x.partner(2, 2), BAD);
    due.is("4: partner(0, 0)", x.partner(0, 0), BAD);
    due.is("4: partner(2, 3)", x.partner(2, 3), BAD);
    due.is("4: partner(0, 2)", x.partner(0, 2), NO);
    due.is("4: partner(1, NONE)", x.partner(1, NONE), NO);
    due.is("4: partner(2, 0)", x.partner(2, 0), NONE);
    due.is("4: partner(2, 1)", x.partner(2, 1), 0);
    due.is("4: about(2, 3)", x.about(2, 3), 1);
    due.is("4: partner(2, NONE)", x.partner(2, NONE), 1);
    due.is("4: about(2, 3)", x.about(2, 3), NONE);
    x.column(2, 0, 0);
    due.is("4: a switch's partner is a switch", x.partner(2, 3), NONE);
    due.is("4: and the other way", x.partner(3, 2), NONE);
    due.is("4: about(2, 3)", x.about(2, 3), 3);
  }

  private static void costs() {
    BoundCourt x = three();
    for (int c : OUT) {
      due.is("5: cost(" + c + ", 0)", x.cost(c, 0), BAD);
    }
    for (int v : new int[] {-10, 10, Integer.MIN_VALUE, Integer.MAX_VALUE, NONE}) {
      due.is("5: cost(0, " + v + ")", x.cost(0, v), BAD);
    }
    due.is("5: cost(0, 9)", x.cost(0, 9), 0);
    due.is("5: cost(0, -9)", x.cost(0, -9), 9);
    due.is("5: about(0, 2)", x.about(0, 2), -9);
    due.is("5: another's", x.about(1, 2), 0);
  }

  private static void rows() {
    BoundCourt x = new BoundCourt();
    int[][] bad = {{-1, 0}, {3, 0}, {0, 100}, {0, -100}, {2, NONE}, {Integer.MAX_VALUE, 0}, {0, Integer.MIN_VALUE}};
    for (int[] b : bad) {
      due.is("6: row(" + b[0] + ", " + b[1] + ")", x.row(b[0], b[1]), BAD);
    }
    due.is("6: nothing came of them, count(1)", x.count(1), 0);
    for (int r = 0; r < 7; r++) {
      due.is("6: row " + r, x.row(r % 3, r * 33 - 99), r);
    }
    due.is("6: an eighth", x.row(0, 0), FULL);
    due.is("6: an eighth and bad", x.row(0, 100), BAD);
    due.is("6: count(1)", x.count(1), 7);
    for (int r = 0; r < 7; r++) {
      due.is("6: its kind", x.told(r, 0), r % 3);
      due.is("6: its number", x.told(r, 1), r * 33 - 99);
      due.is("6: it counts", x.told(r, 2), 1);
    }
  }

  private static void shares() {
    BoundCourt x = three();
    x.row(0, 0);
    x.row(1, 0);
    for (int i : OUT) {
      due.is("7: share(" + i + ", 0, 1)", x.share(i, 0, 1), BAD);
      due.is("7: share(0, " + i + ", 1)", x.share(0, i, 1), BAD);
    }
    due.is("7: share(2, 0, 1)", x.share(2, 0, 1), BAD);
    due.is("7: share(0, 3, 1)", x.share(0, 3, 1), BAD);
    due.is("7: share(0, 0, 10)", x.share(0, 0, 10), BAD);
    due.is("7: share(0, 0, -10)", x.share(0, 0, -10), BAD);
    for (int r = 0; r < 2; r++) {
      for (int c = 0; c < 3; c++) {
        due.is("7: a share at first", x.share(r, c, r * 3 + c - 9), 0);
      }
    }
    for (int r = 0; r < 2; r++) {
      for (int c = 0; c < 3; c++) {
        due.is("7: told(" + r + ", 3 + " + c + ")", x.told(r, 3 + c), r * 3 + c - 9);
        due.is("7: what it was", x.share(r, c, 9), r * 3 + c - 9);
      }
    }
    x.column(0, 0, 1);
    due.is("7: of a column that came behind the row", x.share(1, 3, 4), 0);
  }

  private static void numbers() {
    BoundCourt x = new BoundCourt();
    due.is("8: number(0, 1)", x.number(0, 1), BAD);
    x.row(2, 7);
    for (int r : OUT) {
      due.is("8: number(" + r + ", 1)", x.number(r, 1), BAD);
    }
    for (int v : new int[] {100, -100, NONE, Integer.MAX_VALUE, Integer.MIN_VALUE}) {
      due.is("8: number(0, " + v + ")", x.number(0, v), BAD);
    }
    due.is("8: number(0, 99)", x.number(0, 99), 7);
    due.is("8: number(0, -99)", x.number(0, -99), 99);
    due.is("8: told(0, 1)", x.told(0, 1), -99);
  }

  private static void counting() {
    BoundCourt x = new BoundCourt();
    x.row(0, 0);
    x.row(0, 0);
    for (int r : OUT) {
      due.is("9: counts(" + r + ", 0)", x.counts(r, 0), BAD);
    }
    due.is("9: counts(2, 0)", x.counts(2, 0), BAD);
    due.is("9: counts(0, 2)", x.counts(0, 2), BAD);
    due.is("9: counts(0, -1)", x.counts(0, -1), BAD);
    due.is("9: counts(0, 0)", x.counts(0, 0), 1);
    due.is("9: counts(0, 0)", x.counts(0, 0), 0);
    due.is("9: told(0, 2)", x.told(0, 2), 0);
    due.is("9: the other one", x.told(1, 2), 1);
    due.is("9: count(2)", x.count(2), 1);
    due.is("9: counts(0, 1)", x.counts(0, 1), 0);
    due.is("9: count(2)", x.count(2), 2);
  }

  private static void kinds() {
    BoundCourt x = three();
    for (int c = 0; c < 3; c++) {
      for (int kind = 0; kind < 3; kind++) {
        due.is("10: isOf(" + c + ", " + kind + ")", x.isOf(c, kind), kind <= c ? 1 : 0);
      }
      due.is("10: isOf(" + c + ", 3)", x.isOf(c, 3), BAD);
      due.is("10: isOf(" + c + ", -1)", x.isOf(c, -1), BAD);
    }
    for (int c : OUT) {
      due.is("10: isOf(" + c + ", 0)", x.isOf(c, 0), BAD);
    }
    due.is("10: isOf(3, 0)", x.isOf(3, 0), BAD);
  }

  private static void aboutColumns() {
    BoundCourt x = three();
    x.cost(1, -4);
    x.partner(2, 1);
    int[][] want = {{-3, NONE, 0, NONE}, {-9, 0, -4, NONE}, {0, 1, 0, 1}};
    for (int c = 0; c < 3; c++) {
      for (int what = 0; what < 4; what++) {
        due.is("11: about(" + c + ", " + what + ")", x.about(c, what), want[c][what]);
      }
    }
    for (int i : OUT) {
      due.is("11: about(" + i + ", 0)", x.about(i, 0), BAD);
      due.is("11: about(0, " + i + ")", x.about(0, i), BAD);
    }
    due.is("11: about(3, 0)", x.about(3, 0), BAD);
    due.is("11: about(0, 4)", x.about(0, 4), BAD);
  }

  private static void toldOfRows() {
    BoundCourt x = three();
    x.row(2, -8);
    x.share(0, 2, 6);
    int[] want = {2, -8, 1, 0, 0, 6};
    for (int what = 0; what < 6; what++) {
      due.is("12: told(0, " + what + ")", x.told(0, what), want[what]);
    }
    due.is("12: told(0, 6)", x.told(0, 6), BAD);
    due.is("12: told(1, 0)", x.told(1, 0), BAD);
    due.is("12: told(0, -1)", x.told(0, -1), BAD);
    due.is("12: told(0, least int)", x.told(0, Integer.MIN_VALUE), BAD);
    due.is("12: told(0, least int + 3)", x.told(0, Integer.MIN_VALUE + 3), BAD);
    due.is("12: told(0, greatest int)", x.told(0, Integer.MAX_VALUE), BAD);
    for (int r : OUT) {
      due.is("12: told(" + r + ", 0)", x.told(r, 0), BAD);
    }
  }

  private static void counted() {
    BoundCourt x = three();
    x.row(0, 1);
    x.row(1, 1);
    x.counts(1, 0);
    x.solve(0);
    x.solve(2);
    x.solve(1);
    x.worth(0, 5, 1);
    x.worth(0, 100, 1);
    x.worth(2, 5, 1);
    x.worth(0, 5, 2);
    x.quarrel();
    int[] want = {3, 2, 1, 2, 1, 3};
    for (int what = 0; what < 6; what++) {
      due.is("26: count(" + what + ")", x.count(what), want[what]);
    }
    for (int what : new int[] {-1, 6, NONE, Integer.MAX_VALUE, Integer.MIN_VALUE}) {
      due.is("26: count(" + what + ")", x.count(what), BAD);
    }
  }
}
