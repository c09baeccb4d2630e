import java.io.IOException;
import java.nio.file.Files;
import java.nio.file.Path;

/** Sentences that hold for many promises: what the class is, and terms that have no promise of their own. */
final class TermsEdges {
  private static final int BAD = Due.BAD, NO = Due.NO, FULL = Due.FULL, NONE = Due.NONE;
  private static final int BEST = Due.BEST, NEVER = Due.NEVER, ENDLESS = Due.ENDLESS;
  private static final int PLAIN = 0, WHOLE = 1, SWITCH = 2;
  private static final int AT_MOST = 0, AT_LEAST = 1, JUST = 2;
  private static final int CALLS_OF_MARKET = 14;
  private final Edges edges;

  TermsEdges(Edges edges) {
    this.edges = edges;
  }

  void all() throws IOException {
    leastSumsAreSought();
    answersAreShown();
    fiveHundredTwelveCalls();
    badNumbers();
    noSuchThing();
    notNow();
    notOfSuchAKind();
    firstOfSeveral();
    changesNothing();
    thereIsNone();
    planOfFractions();
    costsTogether();
    strictlyOrLoosely();
    overOneNumber();
    overAnotherOne();
    interfaceSays();
  }

  /** Cloth (plain), tables (whole) and a stall (switch) without which there is no cloth. */
  private static BoundCourt market() {
    BoundCourt x = new BoundCourt();
    x.column(PLAIN, 0, 10);
    x.column(WHOLE, 0, 9);
    x.column(SWITCH, 0, 0);
    x.partner(2, 0);
    x.cost(0, -4);
    x.cost(1, -7);
    x.cost(2, 5);
    x.row(AT_MOST, 31);
    x.share(0, 0, 3);
    x.share(0, 1, 5);
    x.row(AT_LEAST, 2);
    x.share(1, 1, 1);
    x.row(JUST, 1);
    x.share(2, 2, 1);
    return x;
  }

  // ---- what it is

  private void leastSumsAreSought() {
    edges.says(Edges.THE_WHOLE, "A court where least sums are sought and each answer can be shown: columns with bounds, whole ones"
        + " and switches, rows that are at most, at least, or just a number; the plan that costs least, told to the last fraction,"
        + " whether there is none, or no end to how little it costs; what a row's number is worth; the least set of rows that quarrel;");
    BoundCourt x = market();
    edges.is("strictly", x.solve(0), BEST);
    // Two tables and 7 cloths cost -37, five and 2 cost -38, six and a third of one cost a third less.
    edges.is("it costs", x.least(0), x.least(1), -115, 3);
    edges.is("cloths", x.value(0, 0), x.value(0, 1), 1, 3);
    edges.is("tables", x.value(1, 0), x.value(1, 1), 6, 1);
    edges.is("the stall", x.value(2, 0), x.value(2, 1), 1, 1);
    edges.is("one more to spend", x.worth(0, 1, 0), BEST);
    edges.is("it costs", x.least(0), x.least(1), -119, 3);
    edges.is("five more than that at least", x.worth(1, 5, 0), NEVER);
    edges.is("no row quarrels", x.quarrel(), 0);
    x.number(1, 7);
    edges.is("seven tables are dearer than 31", x.quarrel(), 0b011);
    x.counts(0, 0);
    x.bound(0, 0, NONE);
    edges.is("nothing holds the cloth", x.solve(0), ENDLESS);
  }

  private void answersAreShown() {
    edges.says(Edges.THE_WHOLE, "plans and prices that are checked.");
    BoundCourt x = market();
    x.solve(1);
    edges.is("loosely", x.least(0), x.least(1), -7 * 31 + 25, 5);
    edges.is("the plan is taken over", x.take(), 5);
    edges.is("a fifth of a table is not right", x.check(), 2);
    x.pricesOver(5);
    x.price(0, -7);
    x.price(2, 25);
    edges.is("what is left of cloth is 1 / 5, of tables and the stall nothing", x.shows(), 0);
    x.price(0, -6);
    edges.is("a price too low", x.shows(), 3);
    x.solve(0);
    edges.is("the strict plan is taken over", x.take(), 3);
    edges.is("it is right", x.check(), 0);
  }

  private void fiveHundredTwelveCalls() {
    edges.says(Edges.THE_WHOLE, "An object is used for at most 512 calls after it has been made; what later calls answer is free.");
    for (int loosely = 0; loosely <= 1; loosely++) {
      BoundCourt x = market();
      int least = loosely == 0 ? -115 : -192;
      for (int calls = CALLS_OF_MARKET; calls < 508; calls += 2) {
        edges.is("call " + (calls + 1), x.solve(loosely), BEST);
        edges.is("call " + (calls + 2), x.least(0), least);
      }
      edges.is("call 509", x.take(), loosely == 0 ? 3 : 5);
      edges.is("call 510", x.quarrel(), 0);
      edges.is("call 511", x.worth(0, 0, loosely), BEST);
      edges.is("call 512", x.least(0), least);
    }
    BoundCourt y = new BoundCourt();
    for (int i = 0; i < 511; i++) {
      y.solve(0);
    }
    edges.is("each of 511 calls is counted", y.count(5), 511);
  }

  // ---- refusals

  private void badNumbers() {
    edges.says(13, "A call that is refused answers BAD (a number is not as told");
    BoundCourt x = market();
    edges.is("column", x.column(3, 0, 1), BAD);
    edges.is("bound", x.bound(0, 1, 0), BAD);
    edges.is("partner", x.partner(2, 2), BAD);
    edges.is("cost", x.cost(0, 10), BAD);
    edges.is("row", x.row(0, 100), BAD);
    edges.is("share", x.share(0, 0, -10), BAD);
    edges.is("number", x.number(0, -100), BAD);
    edges.is("counts", x.counts(0, 2), BAD);
    edges.is("isOf", x.isOf(0, 3), BAD);
    edges.is("about", x.about(0, 4), BAD);
    edges.is("told", x.told(0, -1), BAD);
    edges.is("solve", x.solve(2), BAD);
    edges.is("worth, d", x.worth(0, 100, 0), BAD);
    edges.is("worth, loosely", x.worth(0, 0, 2), BAD);
    edges.is("least", x.least(2), BAD);
    edges.is("value", x.value(0, 2), BAD);
    edges.is("put", x.put(0, 1000000001), BAD);
    edges.is("over", x.over(0), BAD);
    edges.is("price", x.price(0, 1000001), BAD);
    edges.is("pricesOver", x.pricesOver(0), BAD);
    edges.is("sum", x.sum(0, 2), BAD);
    edges.is("count", x.count(6), BAD);
  }

  private void noSuchThing() {
    edges.says(13, "or there is no such thing)");
    BoundCourt x = market();
    x.solve(0);
    for (int none : new int[] {-1, 3, 5, 7, Edges.LOWEST, Edges.HIGHEST, NONE}) {
      edges.is("bound", x.bound(none, 0, 1), BAD);
      edges.is("partner, the switch", x.partner(none, 0), BAD);
      edges.is("partner, the other", x.partner(2, none), none == NONE ? 0 : BAD);
      edges.is("cost", x.cost(none, 0), BAD);
      edges.is("share, the row", x.share(none, 0, 0), BAD);
      edges.is("share, the column", x.share(0, none, 0), BAD);
      edges.is("number", x.number(none, 0), BAD);
      edges.is("counts", x.counts(none, 0), BAD);
      edges.is("isOf", x.isOf(none, 0), BAD);
      edges.is("about", x.about(none, 0), BAD);
      edges.is("told", x.told(none, 0), BAD);
      edges.is("worth", x.worth(none, 0, 0), BAD);
      edges.is("value", x.value(none, 0), BAD);
      edges.is("sum", x.sum(none, 0), BAD);
    }
  }

  private void notNow() {
    edges.says(15, "NO (not now");
    BoundCourt x = market();
    edges.is("not yet, least(0)", x.least(0), NO);
    edges.is("not yet, value(0, 0)", x.value(0, 0), NO);
    edges.is("not yet, take()", x.take(), NO);
    x.solve(0);
    edges.is("now, least(1)", x.least(1), 3);
    edges.is("now, value(0, 1)", x.value(0, 1), 3);
    edges.is("now, take()", x.take(), 3);
    x.worth(0, -99, 0);
    edges.is("no longer, least(0)", x.least(0), NO);
    edges.is("no longer, value(0, 0)", x.value(0, 0), NO);
    edges.is("no longer, take()", x.take(), NO);
  }

  private void notOfSuchAKind() {
    edges.says(4, "or not of such a kind) or FULL");
    BoundCourt x = market();
    edges.is("bounds of a switch", x.bound(2, 0, 1), NO);
    edges.is("a partner of a plain one", x.partner(0, 1), NO);
    edges.is("a partner of a whole one", x.partner(1, 0), NO);
    x.column(PLAIN, 0, 1);
    x.column(PLAIN, 0, 1);
    edges.is("a sixth column", x.column(PLAIN, 0, 1), FULL);
    for (int r = 3; r < 7; r++) {
      x.row(AT_MOST, 99);
    }
    edges.is("an eighth row", x.row(AT_MOST, 99), FULL);
  }

  private void firstOfSeveral() {
    edges.says(2, "of several the one that stands first here");
    BoundCourt x = ProgramEdges.court(5, 7);
    edges.is("BAD before FULL, column", x.column(PLAIN, 21, 20), BAD);
    edges.is("BAD before FULL, column", x.column(-1, 0, 1), BAD);
    edges.is("BAD before FULL, row", x.row(0, 100), BAD);
    edges.is("BAD before FULL, row", x.row(3, 0), BAD);
    edges.is("BAD before NO, partner", x.partner(0, 0), BAD);
    edges.is("BAD before NO, partner", x.partner(0, 5), BAD);
    edges.is("BAD before NO, least", x.least(-1), BAD);
    edges.is("BAD before NO, value", x.value(5, 0), BAD);
    edges.is("BAD before NO, value", x.value(0, -1), BAD);
    edges.is("NO alone, value", x.value(4, 1), NO);
    edges.is("FULL alone, column", x.column(PLAIN, 20, 20), FULL);
    edges.is("FULL alone, row", x.row(2, 99), FULL);
  }

  private void changesNothing() {
    edges.says(13, "and changes nothing.");
    BoundCourt x = market();
    x.solve(0);
    x.take();
    x.price(0, -1);
    x.pricesOver(2);
    String before = Sight.of(x);
    badNumbersOf(x);
    edges.is("all is as it was", Sight.of(x).equals(before) ? 1 : 0, 1);
  }

  private static void badNumbersOf(BoundCourt x) {
    x.column(WHOLE, 0, 10);
    x.bound(1, 0, NONE);
    x.bound(2, 0, 0);
    x.partner(2, 3);
    x.partner(1, 0);
    x.cost(0, -10);
    x.row(3, 0);
    x.share(0, 3, 1);
    x.number(3, 1);
    x.counts(3, 0);
    x.solve(-1);
    x.worth(0, -100, 1);
    x.put(5, 1);
    x.over(1000001);
    x.price(7, 1);
    x.pricesOver(-1);
  }

  private void thereIsNone() {
    edges.says(11, "NONE: there is none.");
    BoundCourt x = market();
    edges.is("no partner of a plain one", x.about(0, 3), NONE);
    edges.is("a partner", x.partner(2, NONE), 0);
    edges.is("no partner any more", x.about(2, 3), NONE);
    edges.is("what it was", x.partner(2, 1), NONE);
    edges.is("a greatest", x.about(0, 1), 10);
    x.bound(0, 0, NONE);
    edges.is("no greatest", x.about(0, 1), NONE);
    x.put(0, 1000000000);
    x.counts(0, 0);
    x.counts(1, 0);
    x.counts(2, 0);
    edges.is("so no value is above it", x.check(), 0);
  }

  // ---- plans

  private void planOfFractions() {
    edges.says(25, "A PLAN gives each COLUMN a value, a fraction.");
    BoundCourt x = ProgramEdges.court(5, 5);
    x.over(7);
    for (int c = 0; c < 5; c++) {
      x.share(c, c, 1);
      x.put(c, 3 * c - 4);
    }
    for (int c = 0; c < 5; c++) {
      edges.is("in hand, column " + c, x.sum(c, 0), x.sum(c, 1), 3 * c - 4, 7);
    }
    for (int c = 0; c < 5; c++) {
      x.share(c, c, 5 + c);
      x.number(c, 11);
      x.cost(c, -1);
    }
    x.solve(0);
    int[][] want = {{11, 5}, {11, 6}, {11, 7}, {11, 8}, {11, 9}};
    for (int c = 0; c < 5; c++) {
      edges.is("the best, column " + c, x.value(c, 0), x.value(c, 1), want[c][0], want[c][1]);
    }
  }

  private void costsTogether() {
    edges.says(15, "It COSTS the values times the COSTS, together.");
    int[] costs = {-9, 7, -5, 3, -1};
    BoundCourt x = new BoundCourt();
    long together = 0;
    for (int c = 0; c < 5; c++) {
      // Its bounds alone leave one value, so that the cost is all there is to tell.
      x.column(PLAIN, c - 3, c - 3);
      x.cost(c, costs[c]);
      together += costs[c] * (c - 3);
      x.solve(c % 2);
      edges.is(c + 1 + " columns", x.least(0), x.least(1), together, 1);
    }
    BoundCourt y = ProgramEdges.court(2, 0);
    y.cost(0, 3);
    y.cost(1, -2);
    for (int c = 0; c < 2; c++) {
      y.share(y.row(JUST, 1), c, 4 + 2 * c);
    }
    y.solve(0);
    edges.is("3 / 4 less 2 / 6", y.least(0), y.least(1), 5, 12);
    y.cost(1, -9);
    edges.is("what is kept costs what it did", y.least(0), y.least(1), 5, 12);
    y.cost(0, 6);
    y.solve(0);
    edges.is("6 / 4 less 9 / 6", y.least(0), y.least(1), 0, 1);
  }

  private void strictlyOrLoosely() {
    edges.says(13, "TO SOLVE a program, strictly (RIGHT plans) or loosely (LOOSELY RIGHT ones):");
    BoundCourt x = market();
    x.number(1, 0);
    x.counts(2, 0);
    x.cost(1, 0);
    x.solve(1);
    edges.is("loosely the stall is not needed", x.value(2, 0), x.value(2, 1), 0, 1);
    edges.is("cloths", x.value(0, 0), x.value(0, 1), 10, 1);
    x.take();
    edges.is("that is loosely right", x.shows() == 1 ? 1 : 0, 0);
    edges.is("and not right", x.check(), 3);
    x.solve(0);
    edges.is("strictly it is", x.value(2, 0), x.value(2, 1), 1, 1);
    x.take();
    edges.is("that is right", x.check(), 0);
    x.share(0, 1, -5);
    x.number(0, -38);
    x.counts(0, 1);
    x.cost(0, -1);
    x.cost(1, 9);
    x.solve(1);
    edges.is("tables, loosely", x.value(1, 0), x.value(1, 1), 38, 5);
    x.solve(0);
    edges.is("tables, strictly", x.value(1, 0), x.value(1, 1), 8, 1);
  }

  // ---- in hand

  private void overOneNumber() {
    edges.says(19, "all over one number below the line, and PRICES");
    BoundCourt x = ProgramEdges.court(5, 5);
    for (int c = 0; c < 5; c++) {
      x.share(c, c, 1);
      x.put(c, 30 * c + 1);
    }
    for (int below : new int[] {1, 30, 31}) {
      x.over(below);
      for (int c = 0; c < 5; c++) {
        edges.is("column " + c + " over " + below, x.sum(c, 0) * below, (30L * c + 1) * x.sum(c, 1));
      }
    }
  }

  private void overAnotherOne() {
    edges.says(22, "likewise over another one");
    BoundCourt x = new BoundCourt();
    x.column(PLAIN, -20, 20);
    x.column(PLAIN, -20, 20);
    for (int r = 0; r < 2; r++) {
      x.share(x.row(JUST, 1), r, 3 + r);
      x.cost(r, 2);
      x.price(r, r == 0 ? 4 : 3);
    }
    x.pricesOver(6);
    x.over(12);
    x.put(0, 4);
    x.put(1, 3);
    edges.is("prices 4 / 6 and 3 / 6, values 4 / 12 and 3 / 12", x.shows(), 0);
    edges.is("the plan is over", x.over(6), 12);
    edges.is("the plan over what prices are over", x.shows(), 1);
    edges.is("prices are over", x.pricesOver(12), 6);
    x.over(12);
    edges.is("prices over what the plan is over", x.shows(), 3);
  }

  // ---- the interface

  private void interfaceSays() throws IOException {
    String[][] groups = {{"the program", "column", "bound", "partner", "cost", "row", "share", "number", "counts", "isOf", "about", "told"},
        {"solving", "solve", "worth", "least", "value", "quarrel"},
        {"in hand", "put", "over", "take", "price", "pricesOver", "check", "shows", "sum", "count"}};
    String text = Files.readString(Path.of("src/main/java/BoundCourt.java"));
    int at = 0;
    for (String[] group : groups) {
      String calls = String.join("`, `", java.util.Arrays.copyOfRange(group, 1, group.length));
      edges.says(13, "Ahead of the calls `" + calls + "` the interface says: ---- " + group[0] + ".");
      int said = text.indexOf("// ---- " + group[0] + "\n");
      edges.is("it says so", said > at ? 1 : 0, 1);
      at = said;
      for (int i = 1; i < group.length; i++) {
        java.util.regex.Matcher head = java.util.regex.Pattern.compile("\n  public (int|long) " + group[i] + "\\(").matcher(text);
        boolean isBehind = head.find() && head.start() > at;
        edges.is(group[i] + " comes behind it, in its order", isBehind ? 1 : 0, 1);
        at = isBehind ? head.start() : at;
      }
    }
  }
}
