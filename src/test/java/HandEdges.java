/** The edges of promises 18 to 25. */
final class HandEdges {
  private static final int BAD = Due.BAD, NO = Due.NO, NONE = Due.NONE;
  private static final int PLAIN = 0, WHOLE = 1, SWITCH = 2;
  private static final int AT_MOST = 0, AT_LEAST = 1, JUST = 2;
  private static final int MILLION = 1000000, MOST_PUT = 1000000000;
  private final Edges edges;

  HandEdges(Edges edges) {
    this.edges = edges;
  }

  void all() {
    numbersOfThePlan();
    numbersPut();
    overWhat();
    taken();
    takenOverTheLeast();
    takenForColumnsBehind();
    takenOfNoBest();
    pricesOfRows();
    priceNumbers();
    pricesOverWhat();
    right();
    outOfBounds();
    notWhole();
    partnerNotNothing();
    columnsBeforeRows();
    sumsOfRows();
    rowsThatRest();
    showsTheBest();
    notLooselyRight();
    priceOfTheWrongSide();
    leftOfAColumn();
    leftAtOneBound();
    idlePrice();
    pricesOfRowsThatRest();
    firstOneTells();
    sumParts();
    sumFractions();
    sumsThatAreLarge();
  }

  private static BoundCourt court(int kind, int least, int greatest) {
    BoundCourt x = new BoundCourt();
    x.column(kind, least, greatest);
    return x;
  }

  /** A court with one column within wide bounds and one row in which its share is 1. */
  private static BoundCourt oneByOne(int rowKind, int number) {
    BoundCourt x = court(PLAIN, -20, NONE);
    x.share(x.row(rowKind, number), 0, 1);
    return x;
  }

  // ---- 18 put, 19 over

  private void numbersOfThePlan() {
    edges.says(18, "The number of COLUMN 0 .. 4 of the PLAN is v, -1000000000 .. 1000000000: 0. BAD.");
    for (int n = 0; n <= 5; n++) {
      int columns = n;
      edges.takesJust(0, 4, n + " columns, put(v, 1)", v -> ProgramEdges.court(columns, 0).put(v, 1));
    }
    edges.takesJust(-MOST_PUT, MOST_PUT, "put(0, v)", v -> ProgramEdges.court(1, 1).put(0, v));
    edges.takesJust(-MOST_PUT, MOST_PUT, "put(4, v)", v -> new BoundCourt().put(4, v));
  }

  private void numbersPut() {
    edges.says(18, "IN HAND are a PLAN, a number for each COLUMN 0 .. 4");
    BoundCourt x = ProgramEdges.court(0, 5);
    for (int c = 0; c < 5; c++) {
      edges.is("put(" + c + ", ..)", x.put(c, c - 2), 0);
      edges.is("refused", x.put(c, MOST_PUT + 1), BAD);
      edges.is("refused", x.put(c, -MOST_PUT - 1), BAD);
    }
    for (int c = 0; c < 5; c++) {
      x.column(PLAIN, -20, 20);
      x.share(c, c, 1);
      edges.is("put before column " + c + " came", x.sum(c, 0), c - 2);
    }
    for (int v : new int[] {MOST_PUT, -MOST_PUT, 0}) {
      edges.is("put(4, " + v + ")", x.put(4, v), 0);
      edges.is("it is", x.sum(4, 0), v);
      edges.is("the one ahead of it", x.sum(3, 0), 1);
    }
  }

  private void overWhat() {
    edges.says(19, "The PLAN is over n, 1 .. 1000000: what it was over. BAD.");
    edges.takesJust(1, MILLION, "over(v)", v -> new BoundCourt().over(v));
    BoundCourt x = oneByOne(AT_MOST, 0);
    x.put(0, 1);
    int was = 1;
    for (int n : new int[] {1, MILLION, 2, MILLION - 1, 1}) {
      edges.is("over(" + n + ")", x.over(n), was);
      edges.is("refused, over(0)", x.over(0), BAD);
      edges.is("refused, over(-1)", x.over(-1), BAD);
      edges.is("refused, over(1000001)", x.over(MILLION + 1), BAD);
      edges.is("the plan", x.sum(0, 0), x.sum(0, 1), 1, n);
      was = n;
    }
    x.pricesOver(5);
    edges.is("prices are over another one", x.over(1), 1);
  }

  // ---- 20 take

  private void taken() {
    edges.says(20, "The PLAN becomes THE BEST one that is kept,");
    BoundCourt x = ProgramEdges.court(5, 5);
    for (int c = 0; c < 5; c++) {
      x.share(c, c, 1);
      x.number(c, c + 1);
      x.cost(c, c % 2 == 0 ? -1 : 1);
      x.put(c, 100 + c);
    }
    x.over(9);
    x.solve(0);
    // Afterwards the program is another one; what is kept is not.
    for (int c = 0; c < 5; c++) {
      x.number(c, 0);
    }
    edges.is("take()", x.take(), 1);
    for (int c = 0; c < 5; c++) {
      edges.is("column " + c, x.sum(c, 0), x.sum(c, 1), c % 2 == 0 ? c + 1 : 0, 1);
      edges.is("it is still kept, value(" + c + ", 0)", x.value(c, 0), c % 2 == 0 ? c + 1 : 0);
    }
    edges.is("other numbers can be put", x.put(0, 3), 0);
    edges.is("they are", x.sum(0, 0), 3);
    edges.is("that leaves what is kept", x.value(0, 0), 1);
  }

  private void takenOverTheLeast() {
    edges.says(20, "over the least number that does for all its values (0 for COLUMNS that it has not): that.");
    int[][] shares = {{1, 1, 1}, {2, 1, 2}, {2, 3, 6}, {4, 6, 12}, {8, 9, 72}, {9, 3, 9}, {7, 5, 35}, {2, -3, 6}};
    for (int[] s : shares) {
      BoundCourt x = court(PLAIN, -20, 20);
      x.column(PLAIN, -20, 20);
      for (int c = 0; c < 2; c++) {
        x.share(x.row(JUST, 1), c, s[c]);
      }
      x.solve(0);
      edges.is("1 / " + s[0] + " and 1 / " + s[1], x.take(), s[2]);
      edges.is("it is over that", x.over(1), s[2]);
      edges.is("the first one's number", x.sum(0, 0), s[0] * (s[2] / s[0]));
      edges.is("the second one's number", x.sum(1, 0), s[1] * (s[2] / s[1]));
    }
    BoundCourt x = new BoundCourt();
    x.solve(0);
    x.over(7);
    edges.is("no column", x.take(), 1);
    edges.is("over 1", x.over(2), 1);
    BoundCourt y = court(PLAIN, 0, 5);
    y.over(6);
    y.put(0, 5);
    y.solve(1);
    edges.is("all 0", y.take(), 1);
  }

  private void takenForColumnsBehind() {
    edges.says(20, "(0 for COLUMNS that it has not)");
    BoundCourt x = ProgramEdges.court(1, 5);
    x.solve(0);
    for (int c = 0; c < 5; c++) {
      x.put(c, 9);
    }
    x.take();
    for (int c = 0; c < 5; c++) {
      if (c > 0) {
        x.column(PLAIN, 3, 4);
      }
      x.share(c, c, 1);
      edges.is("column " + c, x.sum(c, 0), x.sum(c, 1), 0, 1);
    }
    for (int c = 0; c < 5; c++) {
      x.put(c, 9);
    }
    edges.is("the same one once more", x.take(), 1);
    edges.is("a column that came behind it is 0, below its least", x.check(), 2);
  }

  private void takenOfNoBest() {
    edges.says(20, "NO, as for least().");
    BoundCourt x = oneByOne(AT_MOST, 50);
    x.put(0, 7);
    x.over(4);
    edges.is("nothing was solved", x.take(), NO);
    edges.is("afterwards as it was", x.sum(0, 0), x.sum(0, 1), 7, 4);
    x.worth(0, -99, 0);
    edges.is("never", x.take(), NO);
    edges.is("afterwards as it was", x.sum(0, 0), x.sum(0, 1), 7, 4);
    x.cost(0, -1);
    x.counts(0, 0);
    x.solve(1);
    edges.is("endless", x.take(), NO);
    edges.is("afterwards as it was", x.sum(0, 0), x.sum(0, 1), 7, 4);
    edges.is("over what it was", x.over(1), 4);
  }

  // ---- 21 price, 22 pricesOver

  private void pricesOfRows() {
    edges.says(21, "The PRICE of ROW 0 .. 6 is v (over what PRICES are over), -1000000 .. 1000000: 0. BAD.");
    for (int n = 0; n <= 7; n++) {
      int rows = n;
      edges.takesJust(0, 6, n + " rows, price(v, 1)", v -> ProgramEdges.court(0, rows).price(v, 1));
    }
    edges.takesJust(-MILLION, MILLION, "price(0, v)", v -> ProgramEdges.court(1, 1).price(0, v));
    edges.takesJust(-MILLION, MILLION, "price(6, v)", v -> new BoundCourt().price(6, v));
  }

  private void priceNumbers() {
    edges.says(21, "PRICES, a number for each ROW 0 .. 6");
    for (int r = 0; r < 7; r++) {
      for (int v : new int[] {MILLION, -MILLION, 1, -1}) {
        BoundCourt x = court(PLAIN, -20, 20);
        edges.is("price(" + r + ", " + v + ")", x.price(r, v), 0);
        edges.is("refused", x.price(r, MILLION + 1), BAD);
        edges.is("refused", x.price(r, -MILLION - 1), BAD);
        for (int row = 0; row < 7; row++) {
          x.row(JUST, 0);
          x.share(row, 0, row == r ? 2 : 3);
        }
        // 2 times the price is the cost, and nothing else is paid for.
        x.pricesOver(Math.abs(v));
        x.cost(0, v < 0 ? -2 : 2);
        edges.is("put before the row came", x.shows(), 0);
        x.cost(0, v < 0 ? -3 : 3);
        edges.is("another cost", x.shows(), 3);
      }
    }
  }

  private void pricesOverWhat() {
    edges.says(22, "PRICES are over n, 1 .. 1000000: what they were over. BAD.");
    edges.takesJust(1, MILLION, "pricesOver(v)", v -> new BoundCourt().pricesOver(v));
    BoundCourt x = oneByOne(JUST, 0);
    x.cost(0, 1);
    int was = 1;
    for (int n : new int[] {1, MILLION, 2, MILLION - 1, 1}) {
      edges.is("pricesOver(" + n + ")", x.pricesOver(n), was);
      edges.is("refused, pricesOver(0)", x.pricesOver(0), BAD);
      edges.is("refused, pricesOver(-1)", x.pricesOver(-1), BAD);
      edges.is("refused, pricesOver(1000001)", x.pricesOver(MILLION + 1), BAD);
      x.price(0, n);
      edges.is("the price is 1", x.shows(), 0);
      x.price(0, n - 1);
      edges.is("a bit less than 1", x.shows(), 3);
      was = n;
    }
    x.over(5);
    edges.is("the plan is over another one", x.pricesOver(1), 1);
  }

  // ---- 23 check

  private void right() {
    edges.says(23, "Whether the PLAN is RIGHT: 0");
    edges.is("no column and no row", new BoundCourt().check(), 0);
    BoundCourt x = new BoundCourt();
    for (int c = 0; c < 5; c++) {
      x.put(c, MOST_PUT);
    }
    edges.is("numbers of columns that are not there", x.check(), 0);
    for (int c = 0; c < 5; c++) {
      x.put(c, 0);
      x.column(PLAIN, 0, 0);
      edges.is("column " + c + " and those that are not there", x.check(), 0);
    }
  }

  private void outOfBounds() {
    edges.says(23, "COLUMN c has a value out of bounds");
    for (int c = 0; c < 5; c++) {
      for (int below : new int[] {1, 3, MILLION}) {
        BoundCourt x = ProgramEdges.court(5, 0);
        x.over(below);
        x.bound(c, -20, 20);
        x.put(c, 20 * below);
        edges.is("at its greatest", x.check(), 0);
        x.put(c, 20 * below + 1);
        edges.is("a bit above it", x.check(), 1 + c);
        x.put(c, -20 * below);
        edges.is("at its least", x.check(), 0);
        x.put(c, -20 * below - 1);
        edges.is("a bit below it", x.check(), 1 + c);
        x.put(c, MOST_PUT);
        edges.is("as far above as can be", x.check(), 1 + c);
        x.bound(c, -20, NONE);
        edges.is("without a greatest", x.check(), 0);
        x.put(c, -MOST_PUT);
        edges.is("as far below as can be", x.check(), 1 + c);
      }
    }
  }

  private void notWhole() {
    edges.says(23, "or one that is not whole and should be");
    for (int kind = 0; kind < 3; kind++) {
      BoundCourt x = court(kind, -4, 5);
      x.over(2);
      x.put(0, 1);
      edges.is("1 / 2, kind " + kind, x.check(), kind == PLAIN ? 0 : 1);
      x.put(0, 2);
      edges.is("2 / 2, kind " + kind, x.check(), 0);
      x.over(MILLION);
      x.put(0, MILLION - 1);
      edges.is("a millionth less than 1, kind " + kind, x.check(), kind == PLAIN ? 0 : 1);
      x.put(0, -1);
      edges.is("a millionth less than 0, kind " + kind, x.check(), kind == PLAIN ? 0 : 1);
      x.put(0, -4 * MILLION);
      edges.is("whole and below 0, kind " + kind, x.check(), kind == SWITCH ? 1 : 0);
    }
  }

  private void partnerNotNothing() {
    edges.says(23, "or its PARTNER's should be 0 and is not");
    for (int s = 0; s < 5; s++) {
      int p = (s + 2) % 5;
      BoundCourt x = new BoundCourt();
      for (int c = 0; c < 5; c++) {
        x.column(c == s ? SWITCH : PLAIN, -5, 5);
      }
      x.put(p, 1);
      x.over(MILLION);
      edges.is("no partner", x.check(), 0);
      x.partner(s, p);
      edges.is("a millionth is not 0, of switch " + s, x.check(), 1 + s);
      x.put(p, -1);
      edges.is("nor below 0, of switch " + s, x.check(), 1 + s);
      x.put(p, 0);
      edges.is("0", x.check(), 0);
      x.put(p, 1);
      x.put(s, MILLION);
      edges.is("the switch is on", x.check(), 0);
      x.put(s, 0);
      x.partner(s, NONE);
      edges.is("no partner any more", x.check(), 0);
    }
  }

  private void columnsBeforeRows() {
    edges.says(23, "else the first that keeps it from that: 1 + c");
    BoundCourt x = new BoundCourt();
    for (int c = 0; c < 5; c++) {
      x.column(WHOLE, 1, 2);
    }
    x.row(JUST, 1);
    for (int c = 0; c < 5; c++) {
      edges.is("column " + c + " and those behind it", x.check(), 1 + c);
      x.put(c, 1 + c % 2);
    }
    edges.is("all columns are well", x.check(), 100);
    x.put(4, 3);
    edges.is("the last column comes ahead of the first row", x.check(), 5);
    BoundCourt y = court(SWITCH, 0, 0);
    y.column(PLAIN, 0, 5);
    y.partner(0, 1);
    y.put(1, 6);
    edges.is("the switch comes ahead of its partner's bounds", y.check(), 1);
    y.put(0, 1);
    edges.is("then the partner itself", y.check(), 2);
  }

  private void sumsOfRows() {
    edges.says(23, "when all COLUMNS are well 100 + r: the SUM in ROW r");
    for (int r = 0; r < 7; r++) {
      for (int kind = 0; kind < 3; kind++) {
        BoundCourt x = court(PLAIN, -20, NONE);
        for (int row = 0; row < 7; row++) {
          x.row(row == r ? kind : AT_MOST, row == r ? 5 : 99);
        }
        x.share(r, 0, 1);
        x.over(MILLION);
        x.put(0, 5 * MILLION);
        edges.is("at the number", x.check(), 0);
        x.put(0, 5 * MILLION + 1);
        edges.is("a millionth more, row " + r + " of kind " + kind, x.check(), kind == AT_LEAST ? 0 : 100 + r);
        x.put(0, 5 * MILLION - 1);
        edges.is("a millionth less, row " + r + " of kind " + kind, x.check(), kind == AT_MOST ? 0 : 100 + r);
      }
      BoundCourt y = ProgramEdges.court(1, 7);
      y.number(r, -1);
      y.number(6, -1);
      edges.is("the first of two rows", y.check(), 100 + r);
    }
  }

  private void rowsThatRest() {
    edges.says(23, "its SUM in each ROW that COUNTS is at most, at least, or just the NUMBER");
    BoundCourt x = ProgramEdges.court(1, 7);
    for (int r = 0; r < 7; r++) {
      x.number(r, -1);
    }
    for (int r = 0; r < 7; r++) {
      edges.is("row " + r, x.check(), 100 + r);
      x.counts(r, 0);
    }
    edges.is("all rest", x.check(), 0);
  }

  // ---- 24 shows

  private void showsTheBest() {
    edges.says(24, "Whether PRICES SHOW the PLAN: 0; else the number by which it is told.");
    BoundCourt x = court(PLAIN, 0, NONE);
    x.column(PLAIN, 0, NONE);
    x.cost(0, -3);
    x.cost(1, -5);
    int[][] rows = {{1, 0, 4}, {0, 2, 12}, {3, 2, 18}};
    for (int[] row : rows) {
      int r = x.row(AT_MOST, row[2]);
      x.share(r, 0, row[0]);
      x.share(r, 1, row[1]);
    }
    x.solve(1);
    x.take();
    edges.is("no prices yet", x.shows(), 3);
    x.pricesOver(2);
    x.price(1, -3);
    x.price(2, -2);
    edges.is("prices 0, -3 / 2, -1 for the plan 2, 6", x.shows(), 0);
    long worthIt = -3 * 12 - 2 * 18;
    edges.is("numbers times prices are what it costs", worthIt * x.least(1), 2 * x.least(0));
    x.put(0, 1);
    edges.is("a plan that costs more", x.shows(), 4);
    x.put(0, 3);
    edges.is("one that is not right", x.shows(), 1);
    x.take();
    x.price(2, 2);
    edges.is("a price of the wrong side", x.shows(), 2);
  }

  private void notLooselyRight() {
    edges.says(24, "1 the PLAN is not LOOSELY RIGHT.");
    edges.is("no column and no row", new BoundCourt().shows(), 0);
    BoundCourt x = court(WHOLE, 0, 9);
    x.column(SWITCH, 0, 0);
    x.column(PLAIN, 0, 5);
    x.partner(1, 2);
    x.over(2);
    x.put(0, 1);
    x.put(2, 3);
    edges.is("neither whole nor as a switch has it", x.shows(), 0);
    x.put(2, 10);
    edges.is("at its greatest", x.shows(), 0);
    x.put(2, 11);
    edges.is("above it", x.shows(), 1);
    x.put(2, -1);
    edges.is("below its least", x.shows(), 1);
    for (int kind = 0; kind < 3; kind++) {
      BoundCourt y = oneByOne(kind, 3);
      y.put(0, 3);
      edges.is("at the number", y.shows(), 0);
      y.put(0, 4);
      edges.is("above it, kind " + kind, y.shows(), kind == AT_LEAST ? 0 : 1);
      y.put(0, 2);
      edges.is("below it, kind " + kind, y.shows(), kind == AT_MOST ? 0 : 1);
      y.counts(0, 0);
      edges.is("it rests", y.shows(), 0);
    }
  }

  private void priceOfTheWrongSide() {
    edges.says(24, "2 The PRICE of a ROW that COUNTS is above 0, and it is AT MOST, or below 0, and it is AT LEAST.");
    for (int r = 0; r < 7; r++) {
      for (int kind = 0; kind < 3; kind++) {
        for (int price : new int[] {-MILLION, -1, 0, 1, MILLION}) {
          BoundCourt x = new BoundCourt();
          for (int row = 0; row < 7; row++) {
            x.row(row == r ? kind : JUST, 0);
          }
          x.price(r, price);
          x.pricesOver(MILLION);
          boolean isWrong = (kind == AT_MOST && price > 0) || (kind == AT_LEAST && price < 0);
          edges.is("row " + r + " of kind " + kind + ", price " + price, x.shows(), isWrong ? 2 : 0);
          x.counts(r, 0);
          edges.is("it rests", x.shows(), 0);
        }
      }
    }
  }

  private void leftOfAColumn() {
    edges.says(24, "is below 0, and its value is not the GREATEST; or above 0, and its value is not the LEAST");
    for (int c = 0; c < 5; c++) {
      for (int cost = -1; cost <= 1; cost++) {
        BoundCourt x = ProgramEdges.court(5, 0);
        x.bound(c, -3, 4);
        x.cost(c, cost);
        x.over(MILLION);
        x.put(c, -3 * MILLION);
        edges.is("at the least, left " + cost, x.shows(), cost < 0 ? 3 : 0);
        x.put(c, -3 * MILLION + 1);
        edges.is("a millionth above it, left " + cost, x.shows(), cost != 0 ? 3 : 0);
        x.put(c, 4 * MILLION - 1);
        edges.is("a millionth below the greatest, left " + cost, x.shows(), cost != 0 ? 3 : 0);
        x.put(c, 4 * MILLION);
        edges.is("at the greatest, left " + cost, x.shows(), cost > 0 ? 3 : 0);
        x.bound(c, -3, NONE);
        edges.is("there is no greatest, left " + cost, x.shows(), cost != 0 ? 3 : 0);
        x.put(c, -3 * MILLION);
        edges.is("there is no greatest, at the least, left " + cost, x.shows(), cost < 0 ? 3 : 0);
      }
    }
  }

  private void leftAtOneBound() {
    edges.says(24, "3 WHAT IS LEFT of a COLUMN (its COST less the SHARES of it times the PRICES of the ROWS that COUNT, together)");
    BoundCourt x = court(PLAIN, 2, 2);
    x.put(0, 2);
    for (int cost = -9; cost <= 9; cost += 9) {
      x.cost(0, cost);
      edges.is("one value is the least and the greatest, left " + cost, x.shows(), 0);
    }
    BoundCourt y = court(PLAIN, -1, 1);
    y.cost(0, 9);
    y.pricesOver(MILLION);
    for (int r = 0; r < 7; r++) {
      y.row(JUST, 0);
      y.share(r, 0, r == 6 ? 3 : 1);
      y.price(r, MILLION);
    }
    edges.is("9 less 6 times 1 and once 3", y.shows(), 0);
    y.price(6, MILLION - 1);
    edges.is("a bit is left", y.shows(), 3);
    y.price(6, MILLION);
    y.counts(6, 0);
    edges.is("the price of a row that rests is not paid", y.shows(), 3);
    y.cost(0, 6);
    edges.is("nothing is left again", y.shows(), 0);
    BoundCourt z = court(PLAIN, -1, 1);
    z.pricesOver(1);
    for (int r = 0; r < 7; r++) {
      z.row(JUST, 0);
      z.share(r, 0, r == 6 ? -9 : 9);
      z.price(r, r < 6 ? MILLION : -MILLION);
    }
    edges.is("as much below 0 as can be", z.shows(), 3);
    z.price(6, MILLION);
    for (int r = 1; r < 6; r++) {
      z.price(r, 0);
    }
    edges.is("prices that make up for each other", z.shows(), 0);
  }

  private void idlePrice() {
    edges.says(24, "4 The PRICE of a ROW that COUNTS is not 0, and the SUM in it is not its NUMBER.");
    for (int kind = AT_MOST; kind <= AT_LEAST; kind++) {
      int side = kind == AT_MOST ? -1 : 1;
      BoundCourt x = oneByOne(kind, 5);
      x.cost(0, side);
      x.price(0, side);
      x.over(MILLION);
      x.put(0, 5 * MILLION);
      edges.is("at the number", x.shows(), 0);
      x.put(0, 5 * MILLION + side);
      edges.is("a millionth beside it", x.shows(), 4);
      x.price(0, 0);
      x.cost(0, 0);
      edges.is("no price", x.shows(), 0);
      x.price(0, side);
      x.counts(0, 0);
      edges.is("a price of a row that rests", x.shows(), 0);
    }
  }

  private void pricesOfRowsThatRest() {
    edges.says(24, "PRICES SHOW a PLAN, if none of these holds");
    BoundCourt x = court(PLAIN, -20, 20);
    for (int r = 0; r < 7; r++) {
      x.price(r, r % 2 == 0 ? MILLION : -MILLION);
    }
    edges.is("prices of rows that are not there", x.shows(), 0);
    for (int r = 0; r < 7; r++) {
      x.row(r % 2, r % 2 == 0 ? -9 : 9);
      x.share(r, 0, 9);
      x.counts(r, 0);
      edges.is("row " + r + " rests", x.shows(), 0);
    }
  }

  private void firstOneTells() {
    edges.says(24, "it is told by the first one that does");
    BoundCourt x = court(PLAIN, 0, 5);
    x.cost(0, 1);
    x.put(0, 6);
    x.share(x.row(AT_MOST, 9), 0, 1);
    x.price(0, 1);
    x.row(AT_LEAST, -3);
    x.price(1, 1);
    x.cost(0, 3);
    edges.is("all four hold", x.shows(), 1);
    x.put(0, 4);
    edges.is("three of them", x.shows(), 2);
    x.price(0, -1);
    edges.is("two of them", x.shows(), 3);
    x.put(0, 0);
    edges.is("the last one", x.shows(), 4);
    x.price(0, 0);
    edges.is("of either row", x.shows(), 4);
    x.price(1, 0);
    edges.is("none", x.shows(), 0);
  }

  // ---- 25 sum

  private void sumParts() {
    edges.says(25, "The SUM of the PLAN in a ROW: part 0 above the line, 1 below. BAD.");
    for (int n = 0; n <= 7; n++) {
      int rows = n;
      edges.takesJust(0, n - 1, n + " rows, sum(v, 0)", v -> ProgramEdges.court(1, rows).sum(v, 0));
      edges.takesJust(0, n - 1, n + " rows, sum(v, 1)", v -> ProgramEdges.court(1, rows).sum(v, 1));
    }
    edges.takesJust(0, 1, "sum(0, v)", v -> ProgramEdges.court(0, 1).sum(0, v));
    edges.takesJust(0, 1, "sum(6, v)", v -> ProgramEdges.court(5, 7).sum(6, v));
    BoundCourt x = ProgramEdges.court(0, 1);
    x.over(9);
    x.put(0, 5);
    edges.is("no column", x.sum(0, 0), x.sum(0, 1), 0, 1);
    BoundCourt y = oneByOne(AT_MOST, 0);
    y.put(0, 5);
    y.counts(0, 0);
    edges.is("a row that rests", y.sum(0, 0), y.sum(0, 1), 5, 1);
  }

  private void sumFractions() {
    edges.says(25, "below it above 0, in lowest terms (0 is 0 / 1)");
    BoundCourt x = oneByOne(AT_MOST, 0);
    x.share(0, 0, 3);
    int[][] want = {{0, 7, 0, 1}, {-1, 3, -1, 1}, {-1, 6, -1, 2}, {1, 9, 1, 3}, {-MOST_PUT, MILLION, -3000, 1}, {4, 6, 2, 1},
        {-5, MILLION, -3, 200000}};
    for (int[] w : want) {
      x.put(0, w[0]);
      x.over(w[1]);
      edges.is("3 times " + w[0] + " / " + w[1], x.sum(0, 0), x.sum(0, 1), w[2], w[3]);
    }
    x.put(0, MOST_PUT - 1);
    x.over(MILLION);
    edges.is("beyond an int", x.sum(0, 0), x.sum(0, 1), 2999999997L, MILLION);
    x.column(PLAIN, 0, 1);
    x.share(0, 1, -3);
    x.put(1, MOST_PUT - 1);
    edges.is("two that make 0", x.sum(0, 0), x.sum(0, 1), 0, 1);
  }

  private void sumsThatAreLarge() {
    edges.says(25, "ITS SUM in a ROW: the values times their SHARES, together");
    for (int sign = -1; sign <= 1; sign += 2) {
      BoundCourt x = ProgramEdges.court(5, 7);
      for (int c = 0; c < 5; c++) {
        x.share(6, c, 9 * sign);
        x.put(c, MOST_PUT);
      }
      edges.is("as far from 0 as can be", x.sum(6, 0), x.sum(6, 1), sign * 45000000000L, 1);
      x.put(4, MOST_PUT - 1);
      x.over(MILLION);
      edges.is("over a million", x.sum(6, 0), x.sum(6, 1), sign * 44999999991L, MILLION);
      x.over(1);
      for (int c = 0; c < 5; c++) {
        x.put(c, -MOST_PUT);
      }
      edges.is("on the other side", x.sum(6, 0), x.sum(6, 1), sign * -45000000000L, 1);
      edges.is("the rows ahead of it", x.sum(5, 0), x.sum(5, 1), 0, 1);
    }
  }
}
