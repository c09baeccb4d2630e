/** The edges of promises 1 to 12 and 26. */
final class ProgramEdges {
  private static final int BAD = Due.BAD, NO = Due.NO, FULL = Due.FULL, NONE = Due.NONE;
  private static final int LOWEST = Edges.LOWEST, HIGHEST = Edges.HIGHEST;
  private static final int PLAIN = 0, WHOLE = 1, SWITCH = 2;
  private final Edges edges;

  ProgramEdges(Edges edges) {
    this.edges = edges;
  }

  void all() {
    noColumnsNoRows();
    nothingInHandAtFirst();
    fiveColumns();
    columnsAreNumbered();
    threeKinds();
    leasts();
    greatests();
    noGreatest();
    wholeOnesAreNarrow();
    switchBounds();
    switchBoundsAreNotLookedAt();
    badBeforeFullColumn();
    otherBounds();
    badBounds();
    boundOfASwitch();
    partnerWas();
    badPartners();
    partnerOfNoSwitch();
    costs();
    costWas();
    sevenRows();
    rowsAreNumbered();
    rowKinds();
    rowNumbers();
    rowsCountAtFirst();
    badBeforeFullRow();
    shares();
    shareWas();
    numbers();
    countsOrRests();
    kindsOfKinds();
    isOrIsNot();
    aboutWhat();
    toldOfARow();
    toldWhat();
    countWhat();
    callsCounted();
  }

  /** A court with so many columns, all plain, and rows. */
  static BoundCourt court(int columns, int rows) {
    BoundCourt x = new BoundCourt();
    for (int c = 0; c < columns; c++) {
      x.column(PLAIN, 0, 10);
    }
    for (int r = 0; r < rows; r++) {
      x.row(0, 50);
    }
    return x;
  }

  /** A court with one column of each kind. */
  private static BoundCourt kinds() {
    BoundCourt x = new BoundCourt();
    x.column(PLAIN, -3, NONE);
    x.column(WHOLE, -2, 7);
    x.column(SWITCH, 0, 0);
    return x;
  }

  private void isBounded(String what, BoundCourt x, int column, int least, int greatest) {
    edges.is(what + ", its least", x.about(column, 0), least);
    edges.is(what + ", its greatest", x.about(column, 1), greatest);
  }

  // ---- 1 a new object

  private void noColumnsNoRows() {
    edges.says(1, "No COLUMNS, no ROWS; nothing was solved.");
    for (int what = 0; what <= 5; what++) {
      edges.is("count(" + what + ")", new BoundCourt().count(what), 0);
    }
    for (int part = 0; part <= 1; part++) {
      edges.is("least(" + part + ")", new BoundCourt().least(part), NO);
      edges.is("value(0, " + part + ")", new BoundCourt().value(0, part), BAD);
      edges.is("sum(0, " + part + ")", new BoundCourt().sum(0, part), BAD);
    }
    edges.is("take()", new BoundCourt().take(), NO);
    edges.is("about(0, 0)", new BoundCourt().about(0, 0), BAD);
    edges.is("isOf(0, 0)", new BoundCourt().isOf(0, 0), BAD);
    edges.is("told(0, 0)", new BoundCourt().told(0, 0), BAD);
    edges.is("bound(0, 0, 1)", new BoundCourt().bound(0, 0, 1), BAD);
    edges.is("cost(0, 0)", new BoundCourt().cost(0, 0), BAD);
    edges.is("worth(0, 0, 0)", new BoundCourt().worth(0, 0, 0), BAD);
    edges.is("quarrel()", new BoundCourt().quarrel(), 0);
    edges.is("check()", new BoundCourt().check(), 0);
    edges.is("shows()", new BoundCourt().shows(), 0);
  }

  private void nothingInHandAtFirst() {
    edges.says(1, "(all 0 over 1 at first)");
    edges.is("over(2)", new BoundCourt().over(2), 1);
    edges.is("pricesOver(2)", new BoundCourt().pricesOver(2), 1);
    BoundCourt x = new BoundCourt();
    for (int r = 0; r < 7; r++) {
      x.row(2, 0);
    }
    for (int c = 0; c < 5; c++) {
      x.column(PLAIN, -20, 20);
      x.share(c, c, 1);
      edges.is("the number of column " + c, x.sum(c, 0), x.sum(c, 1), 0, 1);
    }
    x.share(5, 0, 1);
    x.share(6, 1, 1);
    // Within its bounds a column takes no rest, so a price of any row would be seen.
    edges.is("the prices, shows()", x.shows(), 0);
  }

  // ---- 2 column

  private void fiveColumns() {
    edges.says(2, "THE PROGRAM has COLUMNS, 5 at most");
    for (int kind = 0; kind < 3; kind++) {
      BoundCourt x = court(4, 0);
      edges.is("the fifth, of kind " + kind, x.column(kind, 1, 2), 4);
      edges.is("a sixth, plain", x.column(PLAIN, 1, 2), FULL);
      edges.is("a sixth, whole", x.column(WHOLE, 1, 2), FULL);
      edges.is("a sixth, a switch", x.column(SWITCH, 1, 2), FULL);
      edges.is("count(0)", x.count(0), 5);
      edges.is("the fifth is as it was", x.isOf(4, kind), 1);
      edges.is("the sixth is not there", x.about(5, 0), BAD);
    }
  }

  private void columnsAreNumbered() {
    edges.says(2, "One more COLUMN: its number.");
    BoundCourt x = new BoundCourt();
    for (int c = 0; c < 5; c++) {
      edges.is("a refused one takes no number", x.column(PLAIN, 1, 0), BAD);
      edges.is("column " + c, x.column(c % 3, c, c + 4), c);
      edges.is("count(0)", x.count(0), c + 1);
    }
  }

  private void threeKinds() {
    edges.says(2, "A COLUMN has a KIND: 0 PLAIN, 1 WHOLE, 2 SWITCH");
    edges.takesJust(0, 2, "column(v, 0, 1)", v -> new BoundCourt().column(v, 0, 1));
    for (int kind = 0; kind < 3; kind++) {
      BoundCourt x = new BoundCourt();
      x.column(kind, 0, 1);
      edges.is("it is whole", x.isOf(0, WHOLE), kind > 0 ? 1 : 0);
      edges.is("it is a switch", x.isOf(0, SWITCH), kind > 1 ? 1 : 0);
      edges.is("its partner at first", x.about(0, 3), NONE);
    }
  }

  private void leasts() {
    edges.says(2, "a LEAST value -20 .. 20");
    edges.takesJust(-20, 20, "column(0, v, 20)", v -> new BoundCourt().column(PLAIN, v, 20));
    edges.takesJust(-20, 20, "column(0, v, NONE)", v -> new BoundCourt().column(PLAIN, v, NONE));
    edges.takesJust(11, 20, "column(1, v, 20)", v -> new BoundCourt().column(WHOLE, v, 20));
    edges.takesJust(-20, -12, "column(1, v, -12)", v -> new BoundCourt().column(WHOLE, v, -12));
  }

  private void greatests() {
    edges.says(2, "a GREATEST one, not below it, at most 20");
    for (int least : new int[] {-20, -1, 0, 1, 19, 20}) {
      String call = "column(0, " + least + ", v)";
      edges.takesJust(least, 20, call, v -> new BoundCourt().column(PLAIN, least, v), NONE);
    }
    edges.takesJust(11, 20, "column(1, 11, v)", v -> new BoundCourt().column(WHOLE, 11, v));
    edges.takesJust(20, 20, "column(1, 20, v)", v -> new BoundCourt().column(WHOLE, 20, v));
  }

  private void noGreatest() {
    edges.says(2, "or NONE (of a PLAIN one alone)");
    BoundCourt x = new BoundCourt();
    edges.is("column(0, -20, NONE)", x.column(PLAIN, -20, NONE), 0);
    isBounded("a plain one", x, 0, -20, NONE);
    edges.is("column(1, 0, NONE)", x.column(WHOLE, 0, NONE), BAD);
    edges.is("column(1, 20, NONE)", x.column(WHOLE, 20, NONE), BAD);
    edges.is("column(0, NONE, NONE)", x.column(PLAIN, NONE, NONE), BAD);
    edges.is("column(0, NONE, 0)", x.column(PLAIN, NONE, 0), BAD);
    edges.is("column(0, 0, BAD)", x.column(PLAIN, 0, BAD), BAD);
    edges.is("column(2, 0, NONE)", x.column(SWITCH, 0, NONE), 1);
    edges.is("a switch has a greatest", x.about(1, 1), 1);
  }

  private void wholeOnesAreNarrow() {
    edges.says(2, "of a WHOLE one the GREATEST is at most 9 more than the LEAST");
    for (int least = -22; least <= 22; least++) {
      for (int greatest = -22; greatest <= 33; greatest++) {
        boolean isRight = least >= -20 && greatest >= least && greatest <= 20;
        boolean isNarrow = greatest - least <= 9;
        String bounds = least + ", " + greatest + ")";
        edges.is("column(1, " + bounds, new BoundCourt().column(WHOLE, least, greatest), isRight && isNarrow ? 0 : BAD);
        edges.is("column(0, " + bounds, new BoundCourt().column(PLAIN, least, greatest), isRight ? 0 : BAD);
      }
    }
  }

  private void switchBounds() {
    edges.says(2, "of a SWITCH these are 0 and 1");
    BoundCourt x = new BoundCourt();
    x.column(SWITCH, 0, 1);
    isBounded("a switch", x, 0, 0, 1);
    x.put(0, 1);
    edges.is("1 is within", x.check(), 0);
    x.put(0, 2);
    edges.is("2 is not", x.check(), 1);
    x.put(0, -1);
    edges.is("-1 is not", x.check(), 1);
  }

  private void switchBoundsAreNotLookedAt() {
    edges.says(2, "(The bounds of a SWITCH are not looked at.)");
    int[] any = {LOWEST, NONE, BAD, -21, 0, 1, 21, HIGHEST};
    for (int least : any) {
      for (int greatest : any) {
        BoundCourt x = new BoundCourt();
        edges.is("column(2, " + least + ", " + greatest + ")", x.column(SWITCH, least, greatest), 0);
        isBounded("that switch", x, 0, 0, 1);
      }
    }
  }

  private void badBeforeFullColumn() {
    edges.says(2, "BAD: kind, bounds; FULL.");
    edges.takesJust(0, 2, "a sixth, column(v, 0, 1)", v -> court(5, 0).column(v, 0, 1));
    edges.takesJust(-20, 20, "a sixth, column(0, v, 20)", v -> court(5, 0).column(PLAIN, v, 20));
    edges.takesJust(0, 20, "a sixth, column(0, 0, v)", v -> court(5, 0).column(PLAIN, 0, v), NONE);
    edges.takesJust(0, 9, "a sixth, column(1, 0, v)", v -> court(5, 0).column(WHOLE, 0, v));
    edges.is("bounds that are not looked at, column(2, 5, 4)", court(5, 0).column(SWITCH, 5, 4), FULL);
    edges.is("column(0, 20, NONE)", court(5, 0).column(PLAIN, 20, NONE), FULL);
    edges.is("column(1, 11, 20)", court(5, 0).column(WHOLE, 11, 20), FULL);
  }

  // ---- 3 bound

  private void otherBounds() {
    edges.says(3, "A COLUMN has other bounds: 0.");
    BoundCourt x = kinds();
    edges.is("both above all that was, bound(0, 20, 20)", x.bound(0, 20, 20), 0);
    isBounded("then", x, 0, 20, 20);
    edges.is("both below all that was, bound(0, -20, -20)", x.bound(0, -20, -20), 0);
    isBounded("then", x, 0, -20, -20);
    edges.is("no greatest, bound(0, 0, NONE)", x.bound(0, 0, NONE), 0);
    isBounded("then", x, 0, 0, NONE);
    edges.is("as they were, bound(0, 0, NONE)", x.bound(0, 0, NONE), 0);
    edges.is("whole, bound(1, 11, 20)", x.bound(1, 11, 20), 0);
    isBounded("then", x, 1, 11, 20);
    edges.is("whole, bound(1, -20, -11)", x.bound(1, -20, -11), 0);
    isBounded("then", x, 1, -20, -11);
    isBounded("the switch", x, 2, 0, 1);
  }

  private void badBounds() {
    edges.says(3, "BAD: column, bounds for its KIND");
    for (int n = 0; n <= 5; n++) {
      int columns = n;
      edges.takesJust(0, n - 1, n + " columns, bound(v, 0, 1)", v -> court(columns, 0).bound(v, 0, 1));
    }
    edges.takesJust(-20, 20, "bound(0, v, 20)", v -> kinds().bound(0, v, 20));
    edges.takesJust(-20, 20, "bound(0, v, NONE)", v -> kinds().bound(0, v, NONE));
    edges.takesJust(-3, 20, "bound(0, -3, v)", v -> kinds().bound(0, -3, v), NONE);
    edges.takesJust(11, 20, "bound(1, v, 20)", v -> kinds().bound(1, v, 20));
    edges.takesJust(-20, -11, "bound(1, -20, v)", v -> kinds().bound(1, -20, v));
    edges.takesJust(-20, -11, "bound(1, v, -11)", v -> kinds().bound(1, v, -11));
    BoundCourt x = kinds();
    edges.is("no such column and bounds, bound(3, 1, 0)", x.bound(3, 1, 0), BAD);
    edges.is("a least alone is as told, bound(1, 0, 10)", x.bound(1, 0, 10), BAD);
    edges.is("a greatest alone is as told, bound(1, -21, 0)", x.bound(1, -21, 0), BAD);
    isBounded("afterwards as it was", x, 1, -2, 7);
    edges.is("bound(0, 3, 2)", x.bound(0, 3, 2), BAD);
    isBounded("afterwards as it was", x, 0, -3, NONE);
  }

  private void boundOfASwitch() {
    edges.says(3, "NO: it is a SWITCH (its bounds are not looked at)");
    int[] any = {LOWEST, NONE, -21, 0, 1, 21, HIGHEST};
    for (int least : any) {
      for (int greatest : any) {
        BoundCourt x = kinds();
        edges.is("bound(2, " + least + ", " + greatest + ")", x.bound(2, least, greatest), NO);
        isBounded("afterwards as it was", x, 2, 0, 1);
      }
    }
  }

  // ---- 4 partner

  private void partnerWas() {
    edges.says(4, "The PARTNER of a SWITCH is another COLUMN, or NONE: what it was.");
    BoundCourt x = new BoundCourt();
    x.column(SWITCH, 0, 0);
    for (int c = 1; c < 5; c++) {
      x.column(c == 4 ? SWITCH : c % 2, 0, 0);
    }
    edges.is("NONE when there was none", x.partner(0, NONE), NONE);
    int was = NONE;
    for (int other : new int[] {1, 2, 3, 4, 4, NONE, 4}) {
      edges.is("partner(0, " + other + ")", x.partner(0, other), was);
      edges.is("about(0, 3)", x.about(0, 3), other);
      was = other;
    }
    edges.is("each the other's, partner(4, 0)", x.partner(4, 0), NONE);
    edges.is("the first one's is as it was", x.about(0, 3), 4);
    BoundCourt y = new BoundCourt();
    y.column(SWITCH, 0, 0);
    edges.is("a column that is not there yet", y.partner(0, 1), BAD);
    y.column(PLAIN, 0, 1);
    edges.is("now it is there", y.partner(0, 1), NONE);
  }

  private void badPartners() {
    edges.says(4, "BAD: columns, the same one");
    edges.takesJust(0, 2, "partner(v, 0 or 1)", v -> kinds().partner(v, v == 0 ? 1 : 0));
    edges.takesJust(0, 1, "partner(2, v)", v -> kinds().partner(2, v), NONE);
    edges.takesJust(1, 2, "partner(0, v)", v -> kinds().partner(0, v), NONE);
    edges.takesJust(0, -1, "no columns, partner(v, NONE)", v -> new BoundCourt().partner(v, NONE));
    edges.takesJust(0, 2, "partner(v, NONE)", v -> kinds().partner(v, NONE));
    BoundCourt x = kinds();
    x.partner(2, 1);
    edges.is("the same one, partner(2, 2)", x.partner(2, 2), BAD);
    edges.is("partner(2, 3)", x.partner(2, 3), BAD);
    edges.is("afterwards as it was", x.about(2, 3), 1);
  }

  private void partnerOfNoSwitch() {
    edges.says(4, "NO: it is no SWITCH");
    BoundCourt x = kinds();
    for (int c = 0; c < 2; c++) {
      edges.is("partner(" + c + ", 2)", x.partner(c, 2), NO);
      edges.is("partner(" + c + ", NONE)", x.partner(c, NONE), NO);
      edges.is("BAD comes first, partner(" + c + ", " + c + ")", x.partner(c, c), BAD);
      edges.is("BAD comes first, partner(" + c + ", 3)", x.partner(c, 3), BAD);
      edges.is("BAD comes first, partner(" + c + ", -1)", x.partner(c, -1), BAD);
      edges.is("afterwards as it was", x.about(c, 3), NONE);
    }
  }

  // ---- 5 cost

  private void costs() {
    edges.says(5, "a COST -9 .. 9 (0 at first)");
    edges.takesJust(-9, 9, "cost(0, v)", v -> kinds().cost(0, v));
    edges.takesJust(-9, 9, "cost(2, v)", v -> kinds().cost(2, v));
    for (int n = 0; n <= 5; n++) {
      int columns = n;
      edges.takesJust(0, n - 1, n + " columns, cost(v, 1)", v -> court(columns, 0).cost(v, 1));
    }
    for (int c = 0; c < 3; c++) {
      edges.is("at first, about(" + c + ", 2)", kinds().about(c, 2), 0);
    }
  }

  private void costWas() {
    edges.says(5, "The COST of a COLUMN is v: what it was. BAD.");
    BoundCourt x = kinds();
    int was = 0;
    for (int v : new int[] {9, -9, -9, 0, 1}) {
      edges.is("cost(1, " + v + ")", x.cost(1, v), was);
      edges.is("refused, cost(1, 10)", x.cost(1, 10), BAD);
      edges.is("refused, cost(1, -10)", x.cost(1, -10), BAD);
      edges.is("about(1, 2)", x.about(1, 2), v);
      was = v;
    }
    edges.is("the one ahead of it", x.about(0, 2), 0);
    edges.is("the one behind it", x.about(2, 2), 0);
  }

  // ---- 6 row

  private void sevenRows() {
    edges.says(6, "One more ROW: its number.");
    for (int kind = 0; kind < 3; kind++) {
      BoundCourt x = court(0, 6);
      edges.is("the seventh, of kind " + kind, x.row(kind, 7), 6);
      edges.is("an eighth, at most", x.row(0, 1), FULL);
      edges.is("an eighth, at least", x.row(1, 1), FULL);
      edges.is("an eighth, just", x.row(2, 1), FULL);
      edges.is("count(1)", x.count(1), 7);
      edges.is("count(2)", x.count(2), 7);
      edges.is("the seventh is as it was", x.told(6, 0), kind);
      edges.is("the seventh is as it was", x.told(6, 1), 7);
      edges.is("the eighth is not there", x.told(7, 0), BAD);
    }
  }

  private void rowsAreNumbered() {
    edges.says(6, "ROWS, 7 at most, numbered from 0 as they come");
    BoundCourt x = new BoundCourt();
    for (int r = 0; r < 7; r++) {
      edges.is("a refused one takes no number", x.row(0, 100), BAD);
      edges.is("row " + r, x.row(r % 3, r), r);
      edges.is("count(1)", x.count(1), r + 1);
    }
  }

  private void rowKinds() {
    edges.says(6, "A ROW has a KIND: 0 AT MOST, 1 AT LEAST, 2 JUST");
    edges.takesJust(0, 2, "row(v, 0)", v -> new BoundCourt().row(v, 0));
    for (int kind = 0; kind < 3; kind++) {
      BoundCourt x = new BoundCourt();
      x.row(kind, 0);
      edges.is("told(0, 0)", x.told(0, 0), kind);
      // Without columns its sum is 0.
      x.number(0, 1);
      edges.is("0 for the number 1", x.check(), kind == 0 ? 0 : 100);
      x.number(0, -1);
      edges.is("0 for the number -1", x.check(), kind == 1 ? 0 : 100);
      x.number(0, 0);
      edges.is("0 for the number 0", x.check(), 0);
    }
  }

  private void rowNumbers() {
    edges.says(6, "a NUMBER -99 .. 99");
    for (int kind = 0; kind < 3; kind++) {
      int k = kind;
      edges.takesJust(-99, 99, "row(" + k + ", v)", v -> new BoundCourt().row(k, v));
    }
    BoundCourt x = new BoundCourt();
    x.row(0, -99);
    x.row(0, 99);
    edges.is("told(0, 1)", x.told(0, 1), -99);
    edges.is("told(1, 1)", x.told(1, 1), 99);
  }

  private void rowsCountAtFirst() {
    edges.says(6, "it COUNTS (at first) or RESTS");
    BoundCourt x = new BoundCourt();
    for (int r = 0; r < 7; r++) {
      x.row(r % 3, 0);
      edges.is("told(" + r + ", 2)", x.told(r, 2), 1);
      edges.is("counts(" + r + ", 0)", x.counts(r, 0), 1);
    }
  }

  private void badBeforeFullRow() {
    edges.says(6, "BAD: kind, number; FULL.");
    edges.takesJust(0, 2, "an eighth, row(v, 0)", v -> court(0, 7).row(v, 0));
    edges.takesJust(-99, 99, "an eighth, row(0, v)", v -> court(0, 7).row(0, v));
    edges.is("an eighth, row(2, 99)", court(0, 7).row(2, 99), FULL);
    edges.is("an eighth, row(1, -99)", court(0, 7).row(1, -99), FULL);
  }

  // ---- 7 share, 8 number, 9 counts

  private void shares() {
    edges.says(7, "a SHARE of each COLUMN, -9 .. 9 (0 at first)");
    edges.takesJust(-9, 9, "share(6, 4, v)", v -> court(5, 7).share(6, 4, v));
    for (int n = 0; n <= 5; n++) {
      int columns = n;
      edges.takesJust(0, n - 1, n + " columns, share(0, v, 1)", v -> court(columns, 1).share(0, v, 1));
    }
    for (int n = 0; n <= 7; n++) {
      int rows = n;
      edges.takesJust(0, n - 1, n + " rows, share(v, 0, 1)", v -> court(1, rows).share(v, 0, 1));
    }
    BoundCourt x = court(5, 7);
    for (int r = 0; r < 7; r++) {
      for (int c = 0; c < 5; c++) {
        edges.is("at first, told(" + r + ", 3 + " + c + ")", x.told(r, 3 + c), 0);
      }
    }
    BoundCourt y = court(0, 1);
    edges.is("of a column that is not there yet", y.share(0, 0, 4), BAD);
    y.column(PLAIN, 0, 1);
    edges.is("now it is there, and its share 0", y.share(0, 0, 4), 0);
  }

  private void shareWas() {
    edges.says(7, "The SHARE of a COLUMN in a ROW is v: what it was. BAD.");
    BoundCourt x = court(5, 7);
    for (int r = 0; r < 7; r++) {
      for (int c = 0; c < 5; c++) {
        edges.is("share(" + r + ", " + c + ", ..)", x.share(r, c, (r * 5 + c) % 19 - 9), 0);
      }
    }
    for (int r = 0; r < 7; r++) {
      for (int c = 0; c < 5; c++) {
        edges.is("refused, share(" + r + ", " + c + ", 10)", x.share(r, c, 10), BAD);
        edges.is("refused, share(" + r + ", " + c + ", -10)", x.share(r, c, -10), BAD);
        edges.is("share(" + r + ", " + c + ", -9)", x.share(r, c, -9), (r * 5 + c) % 19 - 9);
      }
    }
  }

  private void numbers() {
    edges.says(8, "The NUMBER of a ROW is v: what it was. BAD.");
    edges.takesJust(-99, 99, "number(6, v)", v -> court(0, 7).number(6, v));
    for (int n = 0; n <= 7; n++) {
      int rows = n;
      edges.takesJust(0, n - 1, n + " rows, number(v, 1)", v -> court(1, rows).number(v, 1));
    }
    BoundCourt x = court(0, 3);
    int was = 50;
    for (int v : new int[] {99, -99, 0, 0, 50}) {
      edges.is("number(1, " + v + ")", x.number(1, v), was);
      edges.is("refused, number(1, 100)", x.number(1, 100), BAD);
      edges.is("refused, number(1, -100)", x.number(1, -100), BAD);
      edges.is("told(1, 1)", x.told(1, 1), v);
      was = v;
    }
    edges.is("the one ahead of it", x.told(0, 1), 50);
    edges.is("the one behind it", x.told(2, 1), 50);
  }

  private void countsOrRests() {
    edges.says(9, "A ROW COUNTS (1) or RESTS (0): what it did. BAD.");
    edges.takesJust(0, 1, "counts(0, v)", v -> court(0, 1).counts(0, v));
    for (int n = 0; n <= 7; n++) {
      int rows = n;
      edges.takesJust(0, n - 1, n + " rows, counts(v, 0)", v -> court(1, rows).counts(v, 0));
    }
    BoundCourt x = court(0, 7);
    int did = 1;
    for (int does : new int[] {1, 0, 0, 1, 0}) {
      edges.is("counts(6, " + does + ")", x.counts(6, does), did);
      edges.is("refused, counts(6, 2)", x.counts(6, 2), BAD);
      edges.is("refused, counts(6, -1)", x.counts(6, -1), BAD);
      edges.is("told(6, 2)", x.told(6, 2), does);
      edges.is("count(2)", x.count(2), 6 + does);
      did = does;
    }
  }

  // ---- 10 isOf, 11 about, 12 told, 26 count

  private void kindsOfKinds() {
    edges.says(10, "2 SWITCH (a WHOLE one, too; all are PLAIN ones)");
    for (int c = 0; c < 3; c++) {
      for (int kind = 0; kind < 3; kind++) {
        edges.is("isOf(" + c + ", " + kind + ")", kinds().isOf(c, kind), kind <= c ? 1 : 0);
      }
      int column = c;
      edges.takesJust(0, 2, "isOf(" + c + ", v)", v -> kinds().isOf(column, v));
    }
    for (int n = 0; n <= 5; n++) {
      int columns = n;
      edges.takesJust(0, n - 1, n + " columns, isOf(v, 0)", v -> court(columns, 0).isOf(v, 0));
    }
  }

  private void isOrIsNot() {
    edges.says(10, "Whether a COLUMN is of a KIND: 1, 0. BAD.");
    BoundCourt x = new BoundCourt();
    int[] kinds = {SWITCH, PLAIN, WHOLE, PLAIN, SWITCH};
    for (int c = 0; c < 5; c++) {
      edges.is("not there yet, isOf(" + c + ", 0)", x.isOf(c, PLAIN), BAD);
      x.column(kinds[c], 3, 4);
    }
    for (int c = 0; c < 5; c++) {
      edges.is("isOf(" + c + ", 0)", x.isOf(c, PLAIN), 1);
      edges.is("isOf(" + c + ", 1)", x.isOf(c, WHOLE), kinds[c] == PLAIN ? 0 : 1);
      edges.is("isOf(" + c + ", 2)", x.isOf(c, SWITCH), kinds[c] == SWITCH ? 1 : 0);
      edges.is("isOf(" + c + ", 3)", x.isOf(c, 3), BAD);
      edges.is("isOf(" + c + ", -1)", x.isOf(c, -1), BAD);
    }
    edges.is("isOf(5, 0)", x.isOf(5, PLAIN), BAD);
    edges.is("isOf(-1, 0)", x.isOf(-1, PLAIN), BAD);
    x.bound(1, 5, 5);
    x.partner(0, 1);
    edges.is("one value alone makes it no whole one", x.isOf(1, WHOLE), 0);
  }

  private void aboutWhat() {
    edges.says(11, "Of a COLUMN: what 0 its LEAST, 1 its GREATEST (NONE), 2 its COST, 3 its PARTNER (NONE). BAD.");
    for (int c = 0; c < 3; c++) {
      int column = c;
      edges.takesJust(0, 3, "about(" + c + ", v)", v -> kinds().about(column, v));
    }
    for (int n = 0; n <= 5; n++) {
      int columns = n;
      edges.takesJust(0, n - 1, n + " columns, about(v, 3)", v -> court(columns, 0).about(v, 3));
    }
    BoundCourt x = kinds();
    x.cost(1, -4);
    x.partner(2, 1);
    int[][] want = {{-3, NONE, 0, NONE}, {-2, 7, -4, NONE}, {0, 1, 0, 1}};
    for (int c = 0; c < 3; c++) {
      for (int what = 0; what <= 3; what++) {
        edges.is("about(" + c + ", " + what + ")", x.about(c, what), want[c][what]);
      }
    }
    edges.is("no greatest", kinds().about(0, 1), NONE);
    edges.is("no partner", kinds().about(2, 3), NONE);
    edges.is("no partner of no switch", kinds().about(0, 3), NONE);
  }

  private void toldOfARow() {
    edges.says(12, "Of a ROW: what 0 its KIND, 1 its NUMBER, 2 whether it COUNTS (1, 0),");
    BoundCourt x = new BoundCourt();
    for (int r = 0; r < 7; r++) {
      x.row(r % 3, 30 * r - 90);
      x.counts(r, r / 2 % 2);
    }
    for (int round = 0; round < 2; round++) {
      for (int r = 0; r < 7; r++) {
        edges.is("told(" + r + ", 0)", x.told(r, 0), r % 3);
        edges.is("told(" + r + ", 1)", x.told(r, 1), 30 * r - 90 + round);
        edges.is("told(" + r + ", 2)", x.told(r, 2), (r / 2 + round) % 2);
        x.number(r, 30 * r - 89);
        x.counts(r, 1 - r / 2 % 2);
      }
    }
  }

  private void toldWhat() {
    edges.says(12, "3 + c its SHARE of COLUMN c. BAD (also without such a COLUMN).");
    for (int n = 0; n <= 5; n++) {
      int columns = n;
      edges.takesJust(0, 2 + n, n + " columns, told(0, v)", v -> court(columns, 1).told(0, v));
    }
    for (int n = 0; n <= 7; n++) {
      int rows = n;
      edges.takesJust(0, n - 1, n + " rows, told(v, 0)", v -> court(5, rows).told(v, 0));
    }
    BoundCourt x = court(5, 7);
    x.share(6, 4, 9);
    x.share(6, 0, -9);
    edges.is("told(6, 7)", x.told(6, 7), 9);
    edges.is("told(6, 3)", x.told(6, 3), -9);
    edges.is("told(6, 8)", x.told(6, 8), BAD);
    edges.is("told(5, 7)", x.told(5, 7), 0);
  }

  private void countWhat() {
    edges.says(26, "How many: 0 COLUMNS, 1 ROWS, 2 ROWS that COUNT, 3 WHOLE COLUMNS, 4 SWITCHES");
    edges.takesJust(0, 5, "count(v)", v -> new BoundCourt().count(v));
    edges.takesJust(0, 5, "full, count(v)", v -> court(5, 7).count(v));
    BoundCourt x = new BoundCourt();
    int[][] want = {{1, 0, 0}, {2, 1, 0}, {3, 2, 1}, {4, 2, 1}, {5, 3, 2}};
    int[] kinds = {PLAIN, WHOLE, SWITCH, PLAIN, SWITCH};
    for (int c = 0; c < 5; c++) {
      x.column(kinds[c], 0, 0);
      edges.is("count(0)", x.count(0), want[c][0]);
      edges.is("a switch is whole, count(3)", x.count(3), want[c][1]);
      edges.is("count(4)", x.count(4), want[c][2]);
    }
    for (int r = 0; r < 7; r++) {
      x.row(0, 0);
    }
    for (int r = 6; r >= 0; r--) {
      x.counts(r, 0);
      edges.is("one rests more, count(2)", x.count(2), r);
      edges.is("count(1)", x.count(1), 7);
    }
  }

  private void callsCounted() {
    edges.says(26, "5 calls of solve() and worth() that were not refused. BAD.");
    BoundCourt x = court(1, 1);
    x.solve(2);
    x.solve(-1);
    x.worth(1, 0, 0);
    x.worth(0, 100, 0);
    x.worth(0, 0, 2);
    x.quarrel();
    x.take();
    edges.is("none of these", x.count(5), 0);
    edges.is("count(6)", x.count(6), BAD);
    edges.is("count(-1)", x.count(-1), BAD);
    x.solve(0);
    x.solve(1);
    x.worth(0, 99, 0);
    x.worth(0, -99, 1);
    edges.is("each of these", x.count(5), 4);
    x.number(0, -1);
    x.solve(0);
    edges.is("also what is never", x.count(5), 5);
    x.counts(0, 0);
    x.bound(0, 0, NONE);
    x.cost(0, -1);
    x.solve(0);
    edges.is("also what is endless", x.count(5), 6);
    x.worth(0, 5, 0);
    edges.is("also of a row that rests", x.count(5), 7);
  }
}
