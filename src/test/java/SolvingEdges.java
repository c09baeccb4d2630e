/** The edges of promises 13 to 17. */
final class SolvingEdges {
  private static final int BAD = Due.BAD, NO = Due.NO, NONE = Due.NONE;
  private static final int BEST = Due.BEST, NEVER = Due.NEVER, ENDLESS = Due.ENDLESS;
  private static final int PLAIN = 0, WHOLE = 1, SWITCH = 2;
  private static final int AT_MOST = 0, AT_LEAST = 1, JUST = 2;
  private final Edges edges;

  SolvingEdges(Edges edges) {
    this.edges = edges;
  }

  void all() {
    strictlyOrLoosely();
    nothingToSolve();
    neverAtTheBounds();
    sumsAtTheNumber();
    rowsThatRest();
    neverStrictly();
    endless();
    neverThoughCostsFall();
    endlessStrictly();
    endlessPartners();
    leastCost();
    leastValues();
    wholeAndPartners();
    kept();
    numberMore();
    numberBeyondItsBounds();
    worthOfARowThatRests();
    leastParts();
    leastOfNoBest();
    valuesOfTheBest();
    valueParts();
    columnsBehind();
    fractions();
    noQuarrel();
    quarrelAtTheBounds();
    quarrelOfFewest();
    quarrelOfLeastBits();
    quarrelOfCountingRows();
    quarrelLetsFractions();
  }

  private static BoundCourt court(int kind, int least, int greatest, int cost) {
    BoundCourt x = new BoundCourt();
    addColumn(x, kind, least, greatest, cost);
    return x;
  }

  private static void addColumn(BoundCourt x, int kind, int least, int greatest, int cost) {
    x.cost(x.column(kind, least, greatest), cost);
  }

  private static void addRow(BoundCourt x, int kind, int number, int... shares) {
    int r = x.row(kind, number);
    for (int c = 0; c < shares.length; c++) {
      x.share(r, c, shares[c]);
    }
  }

  private void isBest(String what, BoundCourt x, int outcome, long... values) {
    edges.is(what, outcome, BEST);
    for (int c = 0; c < values.length; c++) {
      edges.is(what + ", value(" + c + ", ..)", x.value(c, 0), x.value(c, 1), values[c], 1);
    }
  }

  // ---- 13 solve

  private void strictlyOrLoosely() {
    edges.says(13, "The program is SOLVED, strictly (loosely 0) or loosely (1): BEST, NEVER, ENDLESS.");
    edges.takesJust(0, 1, "solve(v)", v -> new BoundCourt().solve(v));
    edges.takesJust(0, 1, "solve(v)", v -> ProgramEdges.court(5, 7).solve(v));
    BoundCourt x = court(WHOLE, 0, 9, 1);
    addRow(x, AT_LEAST, 1, 2);
    isBest("strictly", x, x.solve(0), 1);
    edges.is("loosely", x.solve(1), BEST);
    edges.is("loosely, value(0, ..)", x.value(0, 0), x.value(0, 1), 1, 2);
  }

  private void nothingToSolve() {
    edges.says(13, "NEVER (1): there is no such plan.");
    for (int loosely = 0; loosely <= 1; loosely++) {
      BoundCourt x = new BoundCourt();
      edges.is("no column and no row", x.solve(loosely), BEST);
      edges.is("which costs nothing", x.least(0), x.least(1), 0, 1);
      for (int kind = 0; kind < 3; kind++) {
        for (int number = -1; number <= 1; number++) {
          BoundCourt y = new BoundCourt();
          y.row(kind, number);
          boolean isKept = number == 0 || (kind == AT_MOST && number > 0) || (kind == AT_LEAST && number < 0);
          edges.is("no column, a row of kind " + kind + " for " + number, y.solve(loosely), isKept ? BEST : NEVER);
          y.counts(0, 0);
          edges.is("and it rests", y.solve(loosely), BEST);
        }
      }
      BoundCourt z = court(PLAIN, -20, NONE, 9);
      isBest("a column and no row", z, z.solve(loosely), -20);
    }
  }

  private void neverAtTheBounds() {
    edges.says(13, "It is LOOSELY RIGHT if each value is not below the LEAST of its COLUMN and not above its GREATEST, if there is one");
    for (int kind : new int[] {PLAIN, WHOLE}) {
      for (int loosely = 0; loosely <= 1; loosely++) {
        BoundCourt x = court(kind, -4, 5, 0);
        addRow(x, AT_LEAST, 5, 1);
        isBest("at its greatest", x, x.solve(loosely), 5);
        x.number(0, 6);
        edges.is("above its greatest", x.solve(loosely), NEVER);
        BoundCourt y = court(kind, -4, 5, 0);
        addRow(y, AT_MOST, -4, 1);
        isBest("at its least", y, y.solve(loosely), -4);
        y.number(0, -5);
        edges.is("below its least", y.solve(loosely), NEVER);
        BoundCourt z = court(kind, 20, 20, -9);
        isBest("one value alone", z, z.solve(loosely), 20);
      }
    }
    BoundCourt x = court(PLAIN, -20, NONE, 0);
    addRow(x, AT_LEAST, 99, 1);
    isBest("without a greatest", x, x.solve(0), 99);
    x.share(0, 0, 9);
    x.number(0, 94);
    edges.is("the least is a fraction above the bound", x.solve(0), BEST);
    edges.is("value(0, ..)", x.value(0, 0), x.value(0, 1), 94, 9);
    BoundCourt y = court(PLAIN, 2, 10, 1);
    addRow(y, AT_MOST, 17, 9);
    edges.is("a ninth below its least", y.solve(1), NEVER);
    y.number(0, 18);
    isBest("just its least", y, y.solve(1), 2);
  }

  private void sumsAtTheNumber() {
    edges.says(13, "its SUM in each ROW that COUNTS is at most, at least, or just the NUMBER, as the ROW tells");
    for (int number = -99; number <= 99; number += 33) {
      BoundCourt x = court(PLAIN, -20, 20, -1);
      addRow(x, AT_MOST, number, 9);
      edges.is("at most " + number, x.solve(1), BEST);
      edges.is("value(0, ..)", x.value(0, 0) * 9, number * x.value(0, 1));
      BoundCourt y = court(PLAIN, -20, 20, 1);
      addRow(y, AT_LEAST, number, 9);
      edges.is("at least " + number, y.solve(1), BEST);
      edges.is("value(0, ..)", y.value(0, 0) * 9, number * y.value(0, 1));
      BoundCourt z = court(PLAIN, -20, 20, 0);
      addRow(z, JUST, number, -9);
      edges.is("just " + number, z.solve(1), BEST);
      edges.is("value(0, ..)", z.value(0, 0) * -9, number * z.value(0, 1));
    }
    BoundCourt x = court(PLAIN, -20, 20, 0);
    addRow(x, AT_MOST, 3, 1);
    addRow(x, AT_LEAST, 3, 1);
    addRow(x, JUST, 3, 1);
    isBest("all three at one number", x, x.solve(0), 3);
    x.number(1, 4);
    edges.is("at least one more", x.solve(0), NEVER);
    x.number(1, -99);
    x.number(0, 2);
    edges.is("at most one less", x.solve(0), NEVER);
  }

  private void rowsThatRest() {
    edges.says(13, "its SUM in each ROW that COUNTS");
    for (int r = 0; r < 7; r++) {
      BoundCourt x = ProgramEdges.court(1, 7);
      x.share(r, 0, 1);
      x.number(r, -1);
      edges.is("row " + r + " cannot be kept", x.solve(0), NEVER);
      x.counts(r, 0);
      edges.is("row " + r + " rests", x.solve(0), BEST);
    }
  }

  private void neverStrictly() {
    edges.says(13, "the values of WHOLE COLUMNS are whole");
    BoundCourt x = court(WHOLE, 0, 9, 0);
    addRow(x, JUST, 3, 2);
    edges.is("strictly", x.solve(0), NEVER);
    edges.is("loosely", x.solve(1), BEST);
    x.number(0, 18);
    isBest("at its greatest", x, x.solve(0), 9);
    x.number(0, 19);
    edges.is("a half above its greatest, loosely", x.solve(1), NEVER);
    BoundCourt y = court(WHOLE, -9, 0, 0);
    addRow(y, AT_LEAST, -5, 3);
    addRow(y, AT_MOST, -4, 3);
    edges.is("no whole one between -5/3 and -4/3", y.solve(0), NEVER);
    y.number(0, -6);
    isBest("but -2 from -6/3 on", y, y.solve(0), -2);
    BoundCourt z = court(SWITCH, 0, 0, 0);
    addRow(z, AT_LEAST, 1, 9);
    isBest("a switch is whole, too", z, z.solve(0), 1);
    addRow(z, AT_MOST, 8, 9);
    edges.is("so there is no ninth of it", z.solve(0), NEVER);
  }

  private void endless() {
    edges.says(13, "ENDLESS (2): there are such plans that cost less than any number.");
    for (int loosely = 0; loosely <= 1; loosely++) {
      edges.is("without a greatest", court(PLAIN, 20, NONE, -1).solve(loosely), ENDLESS);
      edges.is("with one", court(PLAIN, -20, 20, -1).solve(loosely), BEST);
      edges.is("it costs nothing", court(PLAIN, -20, NONE, 0).solve(loosely), BEST);
      edges.is("it costs", court(PLAIN, -20, NONE, 1).solve(loosely), BEST);
      BoundCourt x = court(PLAIN, 0, NONE, -1);
      addColumn(x, PLAIN, 0, NONE, 1);
      addRow(x, JUST, 0, 1, -1);
      edges.is("one pays just for the other", x.solve(loosely), BEST);
      x.cost(0, -2);
      edges.is("and then no longer", x.solve(loosely), ENDLESS);
      x.share(0, 1, -2);
      edges.is("two for one", x.solve(loosely), ENDLESS);
      x.cost(1, 4);
      edges.is("two for one, and paid", x.solve(loosely), BEST);
      BoundCourt y = court(PLAIN, -20, NONE, -9);
      addRow(y, AT_MOST, 99, 1);
      isBest("a row holds it", y, y.solve(loosely), 99);
      y.counts(0, 0);
      edges.is("a row that rests does not", y.solve(loosely), ENDLESS);
    }
    BoundCourt x = new BoundCourt();
    for (int c = 0; c < 5; c++) {
      addColumn(x, PLAIN, 0, NONE, c == 4 ? -1 : 9);
    }
    edges.is("the fifth of five", x.solve(1), ENDLESS);
  }

  private void neverThoughCostsFall() {
    edges.says(13, "BEST (0): else");
    BoundCourt x = court(PLAIN, 0, NONE, -9);
    addColumn(x, PLAIN, 0, 5, 0);
    addRow(x, AT_LEAST, 6, 0, 1);
    edges.is("no plan, though costs fall, loosely", x.solve(1), NEVER);
    edges.is("no plan, though costs fall, strictly", x.solve(0), NEVER);
    x.number(0, 5);
    edges.is("a plan", x.solve(1), ENDLESS);
    addRow(x, AT_MOST, 9, 1, 0);
    isBest("and an end", x, x.solve(1), 9, 5);
  }

  private void endlessStrictly() {
    edges.says(13, "that of the PARTNER of each SWITCH whose value is 0 is 0");
    BoundCourt x = court(SWITCH, 0, 0, 9);
    addColumn(x, PLAIN, 0, NONE, -1);
    x.partner(0, 1);
    edges.is("the switch can be on", x.solve(0), ENDLESS);
    addRow(x, AT_MOST, 0, 1, 0);
    isBest("it cannot", x, x.solve(0), 0, 0);
    edges.is("loosely it need not", x.solve(1), ENDLESS);
    x.bound(1, 1, NONE);
    edges.is("then the partner cannot be 0", x.solve(0), NEVER);
    x.bound(1, -2, -1);
    edges.is("nor can it below 0", x.solve(0), NEVER);
    x.bound(1, -2, 0);
    isBest("its greatest is 0", x, x.solve(0), 0, 0);
    x.partner(0, NONE);
    x.cost(1, 1);
    isBest("without a partner", x, x.solve(0), 0, -2);
  }

  private void endlessPartners() {
    edges.says(13, "A SWITCH can have a PARTNER, another COLUMN.");
    for (int s = 0; s < 5; s++) {
      for (int p = 0; p < 5; p++) {
        if (p != s) {
          BoundCourt x = new BoundCourt();
          for (int c = 0; c < 5; c++) {
            addColumn(x, c == s ? SWITCH : PLAIN, 0, c == p ? NONE : 3, c == p ? -1 : 0);
          }
          x.partner(s, p);
          edges.is("switch " + s + " can be on for " + p, x.solve(0), ENDLESS);
          x.share(x.row(AT_MOST, 0), s, 1);
          isBest("switch " + s + " cannot be on for " + p, x, x.solve(0), 0, 0, 0, 0, 0);
        }
      }
    }
  }

  private void leastCost() {
    edges.says(13, "THE BEST plan is that which costs least");
    BoundCourt x = court(PLAIN, -20, 20, 9);
    for (int c = 1; c < 5; c++) {
      addColumn(x, PLAIN, -20, 20, -9);
    }
    isBest("the farthest corner", x, x.solve(0), -20, 20, 20, 20, 20);
    edges.is("least", x.least(0), x.least(1), -900, 1);
    for (int c = 0; c < 5; c++) {
      x.cost(c, c == 0 ? -9 : 9);
    }
    isBest("the other one", x, x.solve(1), 20, -20, -20, -20, -20);
    edges.is("least", x.least(0), x.least(1), -900, 1);
  }

  private void leastValues() {
    edges.says(13, "of several that with the least value of COLUMN 0, of these of COLUMN 1, and so on");
    for (int kind : new int[] {PLAIN, WHOLE}) {
      for (int loosely = 0; loosely <= 1; loosely++) {
        BoundCourt x = new BoundCourt();
        for (int c = 0; c < 5; c++) {
          addColumn(x, kind, -c, 9 - c, 0);
        }
        isBest("no costs", x, x.solve(loosely), 0, -1, -2, -3, -4);
        addRow(x, JUST, 7, 1, 1, 1, 1, 1);
        isBest("the last ones give way", x, x.solve(loosely), 0, -1, -2, 5, 5);
        x.number(0, 12);
        isBest("and those ahead of them", x, x.solve(loosely), 0, -1, 2, 6, 5);
        for (int c = 0; c < 5; c++) {
          x.cost(c, -9);
        }
        isBest("all cost alike", x, x.solve(loosely), 0, -1, 2, 6, 5);
        x.cost(4, -8);
        isBest("cost comes ahead of values", x, x.solve(loosely), 0, 3, 7, 6, -4);
        for (int c = 0; c < 4; c++) {
          x.cost(c, -8);
        }
        x.cost(0, -9);
        isBest("cost comes ahead of the first value", x, x.solve(loosely), 9, -1, -2, 1, 5);
      }
    }
  }

  private void wholeAndPartners() {
    edges.says(13, "It is RIGHT if it is LOOSELY RIGHT, the values of WHOLE COLUMNS are whole");
    for (int least = -20; least <= 11; least++) {
      BoundCourt x = court(WHOLE, least, least + 9, -1);
      addRow(x, AT_MOST, 3, 2);
      int held = least > 1 ? NONE : Math.min(1, least + 9);
      edges.is("least " + least, x.solve(0), held == NONE ? NEVER : BEST);
      if (held != NONE) {
        edges.is("value", x.value(0, 0), x.value(0, 1), held, 1);
      }
    }
    BoundCourt x = new BoundCourt();
    for (int c = 0; c < 5; c++) {
      addColumn(x, SWITCH, 0, 0, c == 4 ? -9 : 2);
    }
    for (int c = 0; c < 4; c++) {
      x.partner(c, c + 1);
    }
    isBest("five switches in a chain", x, x.solve(0), 1, 1, 1, 1, 1);
    x.cost(4, -8);
    isBest("that costs as much as none", x, x.solve(0), 0, 0, 0, 0, 0);
    x.partner(4, 0);
    x.cost(4, -9);
    isBest("in a ring", x, x.solve(0), 1, 1, 1, 1, 1);
  }

  private void kept() {
    edges.says(13, "This is kept till the next solve() or worth() that is not refused. BAD.");
    BoundCourt x = court(PLAIN, 2, 8, 3);
    addRow(x, AT_LEAST, 5, 1);
    x.solve(0);
    x.solve(2);
    x.solve(Edges.LOWEST);
    x.worth(1, 0, 0);
    x.worth(0, 100, 0);
    x.worth(0, 0, -1);
    edges.is("refused calls", x.least(0), x.least(1), 15, 1);
    x.cost(0, -3);
    x.bound(0, 7, 8);
    x.number(0, 99);
    x.share(0, 0, 9);
    x.counts(0, 0);
    x.row(1, 99);
    x.column(WHOLE, 4, 5);
    x.quarrel();
    x.put(0, 9);
    x.over(9);
    x.take();
    edges.is("another program", x.least(0), x.least(1), 15, 1);
    edges.is("another program, value(0, ..)", x.value(0, 0), x.value(0, 1), 5, 1);
    edges.is("the next one", x.solve(0), NEVER);
    edges.is("then least(0)", x.least(0), NO);
    x.counts(1, 0);
    edges.is("the next one but one", x.worth(1, 0, 1), BEST);
    edges.is("then least", x.least(0), x.least(1), -24, 1);
    x.bound(0, 7, NONE);
    edges.is("still", x.least(0), -24);
    edges.is("endless", x.solve(1), ENDLESS);
    edges.is("then least(0)", x.least(0), NO);
  }

  // ---- 14 worth

  private void numberMore() {
    edges.says(14, "Likewise, the NUMBER of a ROW being d more (-99 .. 99");
    edges.takesJust(-99, 99, "worth(0, v, 0)", v -> ProgramEdges.court(1, 1).worth(0, v, 0));
    edges.takesJust(-99, 99, "worth(6, v, 1)", v -> ProgramEdges.court(5, 7).worth(6, v, 1));
    edges.takesJust(0, 1, "worth(0, 0, v)", v -> ProgramEdges.court(1, 1).worth(0, 0, v));
    for (int n = 0; n <= 7; n++) {
      int rows = n;
      edges.takesJust(0, n - 1, n + " rows, worth(v, 0, 0)", v -> ProgramEdges.court(1, rows).worth(v, 0, 0));
    }
    BoundCourt x = court(PLAIN, -20, 20, 1);
    addRow(x, AT_LEAST, 3, 1);
    for (int d : new int[] {-24, -23, -1, 0, 1, 17, 18}) {
      int outcome = x.worth(0, d, 1);
      edges.is("worth(0, " + d + ", 1)", outcome, d > 17 ? NEVER : BEST);
      if (outcome == BEST) {
        edges.is("then least", x.least(0), x.least(1), Math.max(-20, 3 + d), 1);
      }
      edges.is("the number is as it was", x.told(0, 1), 3);
    }
    x.solve(1);
    edges.is("and solve() is as it was", x.least(0), 3);
    BoundCourt y = court(WHOLE, 0, 9, 1);
    addRow(y, AT_LEAST, 0, 2);
    y.worth(0, 3, 0);
    edges.is("strictly", y.least(0), y.least(1), 2, 1);
    y.worth(0, 3, 1);
    edges.is("loosely", y.least(0), y.least(1), 3, 2);
  }

  private void numberBeyondItsBounds() {
    edges.says(14, "it need not be within its bounds then");
    BoundCourt x = court(PLAIN, -20, NONE, 1);
    addRow(x, JUST, 99, 1);
    for (int d : new int[] {1, 99}) {
      isBest("99 and " + d, x, x.worth(0, d, 0), 99 + d);
      isBest("99 and " + d, x, x.worth(0, d, 1), 99 + d);
    }
    BoundCourt y = court(PLAIN, -20, NONE, 1);
    addRow(y, JUST, -99, -1);
    for (int d : new int[] {-1, -99}) {
      isBest("-99 and " + d, y, y.worth(0, d, 0), 99 - d);
    }
    BoundCourt z = court(PLAIN, -20, 20, 1);
    addRow(z, AT_LEAST, 99, 9);
    edges.is("180", z.worth(0, 81, 1), BEST);
    edges.is("181", z.worth(0, 82, 1), NEVER);
    z.number(0, -99);
    edges.is("-198", z.worth(0, -99, 1), BEST);
  }

  private void worthOfARowThatRests() {
    edges.says(14, "whether it COUNTS or RESTS. BAD.");
    BoundCourt x = court(PLAIN, -20, 20, 1);
    addRow(x, AT_LEAST, 3, 1);
    addRow(x, AT_LEAST, -7, 1);
    x.counts(0, 0);
    edges.is("not refused", x.worth(0, 99, 1), BEST);
    edges.is("the others count", x.least(0), x.least(1), -7, 1);
    edges.is("it rests as it did", x.told(0, 2), 0);
    edges.is("the other one, likewise", x.worth(1, 1, 1), BEST);
    edges.is("least", x.least(0), x.least(1), -6, 1);
    edges.is("they are counted", x.count(5), 2);
    for (int d = -99; d <= 99; d += 11) {
      for (int loosely = 0; loosely <= 1; loosely++) {
        edges.is("its number has no say, worth(0, " + d + ", " + loosely + ")", x.worth(0, d, loosely), BEST);
        edges.is("least", x.least(0), x.least(1), -7, 1);
      }
    }
    edges.is("refused all the same, d", x.worth(0, 100, 1), BAD);
    edges.is("refused all the same, loosely", x.worth(0, 1, 2), BAD);
    edges.is("no such row", x.worth(2, 1, 1), BAD);
  }

  // ---- 15 least, 16 value

  private static BoundCourt solved() {
    BoundCourt x = court(PLAIN, 1, 9, 2);
    addColumn(x, SWITCH, 0, 0, 0);
    x.solve(0);
    return x;
  }

  private static BoundCourt neverSolved() {
    BoundCourt x = court(PLAIN, 1, 9, 2);
    addRow(x, AT_MOST, 0, 1);
    x.solve(0);
    return x;
  }

  private static BoundCourt endlesslySolved() {
    BoundCourt x = court(PLAIN, 1, NONE, -2);
    x.solve(0);
    return x;
  }

  private void leastParts() {
    edges.says(15, "What THE BEST plan that is kept costs: part 0 above the line, 1 below.");
    edges.takesJust(0, 1, "least(v)", v -> solved().least(v));
    edges.takesJust(0, 1, "nothing was solved, least(v)", v -> new BoundCourt().least(v));
    edges.takesJust(0, 1, "never, least(v)", v -> neverSolved().least(v));
    edges.takesJust(0, 1, "endless, least(v)", v -> endlesslySolved().least(v));
    edges.is("least", solved().least(0), solved().least(1), 2, 1);
  }

  private void leastOfNoBest() {
    edges.says(15, "BAD; NO: what is kept is not BEST, or there is none.");
    BoundCourt[] courts = {new BoundCourt(), neverSolved(), endlesslySolved()};
    for (int i = 0; i < 3; i++) {
      edges.is("least(0) of " + i, courts[i].least(0), NO);
      edges.is("least(1) of " + i, courts[i].least(1), NO);
      edges.is("least(2) of " + i, courts[i].least(2), BAD);
      edges.is("least(-1) of " + i, courts[i].least(-1), BAD);
    }
    BoundCourt x = solved();
    x.number(x.row(AT_LEAST, 0), 1);
    x.solve(0);
    edges.is("what was best before is not kept", x.least(0), NO);
  }

  private void valueParts() {
    edges.says(16, "As for least(); BAD: column.");
    edges.takesJust(0, 1, "value(0, v)", v -> solved().value(0, v));
    edges.takesJust(0, 1, "value(v, 0)", v -> solved().value(v, 0));
    edges.takesJust(0, 1, "never, value(0, v)", v -> neverSolved().value(0, v));
    edges.takesJust(0, 0, "never, value(v, 0)", v -> neverSolved().value(v, 0));
    edges.takesJust(0, 0, "endless, value(v, 1)", v -> endlesslySolved().value(v, 1));
    for (int n = 0; n <= 5; n++) {
      int columns = n;
      edges.takesJust(0, n - 1, n + " columns, nothing was solved, value(v, 0)", v -> ProgramEdges.court(columns, 0).value(v, 0));
    }
    edges.is("nothing was solved", ProgramEdges.court(1, 0).value(0, 0), NO);
    edges.is("never", neverSolved().value(0, 0), NO);
    edges.is("endless", endlesslySolved().value(0, 1), NO);
  }

  private void valuesOfTheBest() {
    edges.says(16, "The value of a COLUMN in THE BEST plan that is kept");
    int[] want = {20, -3, 0, 1, 7};
    BoundCourt x = new BoundCourt();
    addColumn(x, PLAIN, -20, 20, -1);
    addColumn(x, WHOLE, -3, 6, 1);
    addColumn(x, PLAIN, -5, 5, 0);
    addColumn(x, SWITCH, 0, 0, -2);
    addColumn(x, PLAIN, 6, NONE, 3);
    addRow(x, JUST, 0, 0, 0, 1);
    addRow(x, AT_LEAST, 7, 0, 0, 0, 0, 1);
    isBest("a value of its own for each", x, x.solve(0), 20, -3, 0, 1, 7);
    x.put(0, 4);
    x.bound(0, -20, 2);
    x.bound(4, 8, NONE);
    for (int c = 0; c < 5; c++) {
      edges.is("kept, though bounds and the plan in hand are others, value(" + c + ", ..)", x.value(c, 0), x.value(c, 1), want[c], 1);
    }
    isBest("the next one", x, x.solve(1), 2, -3, 0, 1, 8);
  }

  private void columnsBehind() {
    edges.says(16, "(COLUMNS that came behind it: 0)");
    BoundCourt x = new BoundCourt();
    x.solve(0);
    for (int c = 0; c < 5; c++) {
      edges.is("not there yet", x.value(c, 0), BAD);
      x.column(PLAIN, 7, 8);
      edges.is("value(" + c + ", ..)", x.value(c, 0), x.value(c, 1), 0, 1);
    }
    edges.is("value(5, 0)", x.value(5, 0), BAD);
    BoundCourt y = court(PLAIN, 0, 9, 1);
    addRow(y, JUST, 1, 3);
    y.solve(0);
    y.column(PLAIN, 7, 8);
    edges.is("behind a fraction", y.value(1, 0), y.value(1, 1), 0, 1);
    edges.is("which is as it was", y.value(0, 0), y.value(0, 1), 1, 3);
    edges.is("and costs as it did", y.least(0), y.least(1), 1, 3);
    BoundCourt z = ProgramEdges.court(2, 0);
    z.row(AT_LEAST, 1);
    z.solve(0);
    z.column(PLAIN, 1, 2);
    edges.is("never, and a column behind it", z.value(2, 0), NO);
  }

  private void fractions() {
    edges.says(16, "All numbers are whole but where they are told as FRACTIONS: above the line and below it, below it above 0, in lowest terms (0 is 0 / 1)");
    for (int number = -90; number <= 90; number += 5) {
      for (int share : new int[] {-9, -6, -1, 1, 4, 8}) {
        BoundCourt x = court(PLAIN, -20, NONE, 3);
        addColumn(x, PLAIN, 0, 0, 9);
        addRow(x, JUST, number, share);
        boolean isWithin = number * Integer.signum(share) >= -20 * Math.abs(share);
        edges.is(share + " times it is " + number, x.solve(1), isWithin ? BEST : NEVER);
        if (isWithin) {
          long common = divisor(number, share) * (share < 0 ? -1 : 1);
          edges.is(number + " / " + share, x.value(0, 0), x.value(0, 1), number / common, share / common);
          long costsCommon = divisor(3L * number, share) * (share < 0 ? -1 : 1);
          edges.is("3 times that", x.least(0), x.least(1), 3L * number / costsCommon, share / costsCommon);
          edges.is("0 beside it", x.value(1, 0), x.value(1, 1), 0, 1);
        }
      }
    }
  }

  private static long divisor(long a, long b) {
    return b == 0 ? Math.abs(a) : divisor(b, a % b);
  }

  // ---- 17 quarrel

  private void noQuarrel() {
    edges.says(17, "THE QUARREL; 0: there is none.");
    edges.is("no column and no row", new BoundCourt().quarrel(), 0);
    edges.is("no row", ProgramEdges.court(5, 0).quarrel(), 0);
    edges.is("seven rows that are kept", ProgramEdges.court(5, 7).quarrel(), 0);
    for (int r = 0; r < 7; r++) {
      BoundCourt x = ProgramEdges.court(0, 7);
      x.number(r, -1);
      edges.is("no column, row " + r, x.quarrel(), 1 << r);
      x.number(r, 0);
      edges.is("at the number", x.quarrel(), 0);
    }
  }

  private void quarrelAtTheBounds() {
    edges.says(17, "ROWS QUARREL if no plan with values within the bounds of their COLUMNS keeps them all");
    BoundCourt x = court(PLAIN, -4, 5, 0);
    addRow(x, AT_LEAST, 45, 9);
    addRow(x, AT_MOST, -36, 9);
    edges.is("each at a bound", x.quarrel(), 0b11);
    x.number(0, 46);
    edges.is("above the greatest", x.quarrel(), 0b1);
    x.number(0, 45);
    x.number(1, -37);
    edges.is("below the least", x.quarrel(), 0b10);
    x.bound(0, -4, NONE);
    x.number(0, 99);
    x.number(1, 99);
    edges.is("without a greatest", x.quarrel(), 0);
    x.number(1, 98);
    edges.is("a ninth apart", x.quarrel(), 0b11);
    BoundCourt y = court(PLAIN, 0, 5, 0);
    addRow(y, JUST, 5, 1);
    addRow(y, JUST, 5, 1);
    edges.is("just the same", y.quarrel(), 0);
    y.number(1, 4);
    edges.is("just another", y.quarrel(), 0b11);
    y.number(1, 6);
    edges.is("just above", y.quarrel(), 0b10);
  }

  private void quarrelOfFewest() {
    edges.says(17, "THE QUARREL is the set of ROWS that COUNT and QUARREL which has the fewest ROWS");
    BoundCourt x = new BoundCourt();
    x.column(PLAIN, -20, NONE);
    x.column(PLAIN, -20, NONE);
    addRow(x, AT_MOST, 1, 1, 0);
    addRow(x, AT_MOST, 1, 0, 1);
    addRow(x, AT_LEAST, 3, 1, 1);
    edges.is("three", x.quarrel(), 0b111);
    addRow(x, AT_LEAST, 6, 2, 2);
    edges.is("three that are the first", x.quarrel(), 0b111);
    addRow(x, AT_MOST, 2, 1, 1);
    edges.is("two, though their bits are more", x.quarrel(), 0b10100);
    addRow(x, AT_LEAST, 0, 0, 0);
    addRow(x, AT_LEAST, 1, 0, 0);
    edges.is("the seventh alone", x.quarrel(), 0b1000000);
  }

  private void quarrelOfLeastBits() {
    edges.says(17, "of several that whose bits are the least number (ROW r is 1 &lt;&lt; r)");
    BoundCourt x = court(PLAIN, 0, 10, 0);
    for (int r = 0; r < 7; r++) {
      addRow(x, AT_MOST, -1, 1);
    }
    for (int r = 0; r < 7; r++) {
      edges.is("each alone, from " + r, x.quarrel(), 1 << r);
      x.counts(r, 0);
    }
    edges.is("all rest", x.quarrel(), 0);
    BoundCourt y = court(PLAIN, 0, 10, 0);
    addRow(y, AT_MOST, 3, 1);
    addRow(y, AT_MOST, 8, 1);
    addRow(y, AT_LEAST, 9, 1);
    addRow(y, AT_LEAST, 4, 1);
    // Of rows 0 and 2, 1 and 2, 0 and 3 the first have the least bits.
    edges.is("two of four", y.quarrel(), 0b0101);
    y.counts(0, 0);
    edges.is("the first rests", y.quarrel(), 0b0110);
    y.counts(0, 1);
    y.counts(2, 0);
    edges.is("the third rests", y.quarrel(), 0b1001);
    BoundCourt z = court(PLAIN, 0, 10, 0);
    addRow(z, AT_LEAST, 9, 1);
    addRow(z, AT_LEAST, 10, 1);
    addRow(z, AT_MOST, 9, 1);
    addRow(z, AT_MOST, 8, 1);
    edges.is("the highest bit tells first: 1 and 2 before 0 and 3", z.quarrel(), 0b0110);
  }

  private void quarrelOfCountingRows() {
    edges.says(17, "the set of ROWS that COUNT");
    BoundCourt x = court(PLAIN, 0, 10, -9);
    addRow(x, AT_MOST, 3, 1);
    addRow(x, AT_LEAST, 4, 1);
    edges.is("both count", x.quarrel(), 0b11);
    x.counts(0, 0);
    edges.is("the first rests", x.quarrel(), 0);
    x.counts(0, 1);
    x.counts(1, 0);
    edges.is("the second rests", x.quarrel(), 0);
    x.counts(0, 0);
    edges.is("both rest", x.quarrel(), 0);
    edges.is("nothing was solved", x.least(0), NO);
  }

  private void quarrelLetsFractions() {
    edges.says(17, "(others are not looked at; fractions are let everywhere)");
    BoundCourt x = court(WHOLE, 0, 9, 0);
    addColumn(x, SWITCH, 0, 0, 0);
    addRow(x, JUST, 1, 2, 0);
    addRow(x, JUST, 1, 0, 9);
    edges.is("whole ones and switches", x.quarrel(), 0);
    x.number(1, 9);
    edges.is("a switch at 1", x.quarrel(), 0);
    x.number(1, 10);
    edges.is("a switch above 1", x.quarrel(), 0b10);
    x.number(0, 2);
    x.number(1, 0);
    x.partner(1, 0);
    edges.is("a partner is not looked at", x.quarrel(), 0);
    edges.is("though there is no plan that is right", x.solve(0), NEVER);
  }
}
