/** The whole face once more, as plain as the document tells it, with the oracles behind it. */
final class Twin {
  private static final int BAD = Due.BAD, NO = Due.NO, FULL = Due.FULL, NONE = Due.NONE;
  private final Model m = new Model();
  private Oracle.Answer kept = null;
  private int solved = 0;
  private long[] plan = new long[5];
  private long below = 1;
  private final int[] prices = new int[7];
  private int pricesBelow = 1;

  /** How many choices of whole values trying everything would have to make. */
  long choices() {
    long choices = 1;
    for (int c = 0; c < m.columns; c++) {
      choices *= m.kind[c] == 0 ? 1 : m.greatest[c] - m.least[c] + 1;
    }
    return choices;
  }

  int columns() {
    return m.columns;
  }

  int rows() {
    return m.rows;
  }

  private static boolean isOut(int v, int low, int high) {
    return v < low || v > high;
  }

  private boolean isNoColumn(int c) {
    return isOut(c, 0, m.columns - 1);
  }

  private boolean isNoRow(int r) {
    return isOut(r, 0, m.rows - 1);
  }

  private static boolean areBadBounds(int kind, int least, int greatest) {
    if (kind == 0 && greatest == NONE) {
      return isOut(least, -20, 20);
    }
    return isOut(least, -20, 20) || isOut(greatest, least, kind == 0 ? 20 : Math.min(20, least + 9));
  }

  int column(int kind, int least, int greatest) {
    if (isOut(kind, 0, 2) || (kind != 2 && areBadBounds(kind, least, greatest))) {
      return BAD;
    }
    if (m.columns == 5) {
      return FULL;
    }
    int c = m.columns++;
    m.kind[c] = kind;
    m.least[c] = kind == 2 ? 0 : least;
    m.greatest[c] = kind == 2 ? 1 : greatest;
    m.partner[c] = NONE;
    return c;
  }

  int bound(int column, int least, int greatest) {
    if (isNoColumn(column) || (m.kind[column] != 2 && areBadBounds(m.kind[column], least, greatest))) {
      return BAD;
    }
    if (m.kind[column] == 2) {
      return NO;
    }
    m.least[column] = least;
    m.greatest[column] = greatest;
    return 0;
  }

  int partner(int column, int other) {
    if (isNoColumn(column) || column == other || (other != NONE && isNoColumn(other))) {
      return BAD;
    }
    if (m.kind[column] != 2) {
      return NO;
    }
    int was = m.partner[column];
    m.partner[column] = other;
    return was;
  }

  int cost(int column, int v) {
    if (isNoColumn(column) || isOut(v, -9, 9)) {
      return BAD;
    }
    int was = m.cost[column];
    m.cost[column] = v;
    return was;
  }

  int row(int kind, int number) {
    if (isOut(kind, 0, 2) || isOut(number, -99, 99)) {
      return BAD;
    }
    if (m.rows == 7) {
      return FULL;
    }
    int r = m.rows++;
    m.rowKind[r] = kind;
    m.number[r] = number;
    m.counts[r] = 1;
    return r;
  }

  int share(int row, int column, int v) {
    if (isNoRow(row) || isNoColumn(column) || isOut(v, -9, 9)) {
      return BAD;
    }
    int was = m.share[row][column];
    m.share[row][column] = v;
    return was;
  }

  int number(int row, int v) {
    if (isNoRow(row) || isOut(v, -99, 99)) {
      return BAD;
    }
    int was = m.number[row];
    m.number[row] = v;
    return was;
  }

  int counts(int row, int does) {
    if (isNoRow(row) || isOut(does, 0, 1)) {
      return BAD;
    }
    int was = m.counts[row];
    m.counts[row] = does;
    return was;
  }

  int isOf(int column, int kind) {
    if (isNoColumn(column) || isOut(kind, 0, 2)) {
      return BAD;
    }
    return kind == 0 || m.kind[column] == kind || m.kind[column] == 2 ? 1 : 0;
  }

  int about(int column, int what) {
    if (isNoColumn(column) || isOut(what, 0, 3)) {
      return BAD;
    }
    return new int[] {m.least[column], m.greatest[column], m.cost[column], m.partner[column]}[what];
  }

  int told(int row, int what) {
    if (isNoRow(row) || isOut(what, 0, 2 + m.columns)) {
      return BAD;
    }
    return what > 2 ? m.share[row][what - 3] : new int[] {m.rowKind[row], m.number[row], m.counts[row]}[what];
  }

  int solve(int loosely) {
    if (isOut(loosely, 0, 1)) {
      return BAD;
    }
    solved++;
    kept = Oracle.solve(m, loosely == 0);
    return kept.outcome;
  }

  int worth(int row, int d, int loosely) {
    if (isNoRow(row) || isOut(d, -99, 99) || isOut(loosely, 0, 1)) {
      return BAD;
    }
    m.number[row] += d;
    int outcome = solve(loosely);
    m.number[row] -= d;
    return outcome;
  }

  private boolean isNotBest() {
    return kept == null || kept.outcome != 0;
  }

  private static long divisor(long a, long b) {
    return b == 0 ? Math.abs(a) : divisor(b, a % b);
  }

  private static long lowest(long above, long below, int part) {
    return (part == 0 ? above : below) / divisor(above, below);
  }

  long least(int part) {
    if (isOut(part, 0, 1)) {
      return BAD;
    }
    return isNotBest() ? NO : lowest(kept.plan.cost, kept.plan.below, part);
  }

  long value(int column, int part) {
    if (isNoColumn(column) || isOut(part, 0, 1)) {
      return BAD;
    }
    return isNotBest() ? NO : lowest(keptValue(column), kept.plan.below, part);
  }

  private long keptValue(int c) {
    return c < kept.plan.values.length ? kept.plan.values[c] : 0;
  }

  int quarrel() {
    return Oracle.quarrel(m);
  }

  int put(int column, int v) {
    if (isOut(column, 0, 4) || isOut(v, -1000000000, 1000000000)) {
      return BAD;
    }
    plan[column] = v;
    return 0;
  }

  int over(int n) {
    if (isOut(n, 1, 1000000)) {
      return BAD;
    }
    long was = below;
    below = n;
    return Math.toIntExact(was);
  }

  long take() {
    if (isNotBest()) {
      return NO;
    }
    below = 1;
    for (int c = 0; c < 5; c++) {
      long needed = lowest(keptValue(c), kept.plan.below, 1);
      below = below / divisor(below, needed) * needed;
    }
    for (int c = 0; c < 5; c++) {
      plan[c] = lowest(keptValue(c), kept.plan.below, 0) * (below / lowest(keptValue(c), kept.plan.below, 1));
    }
    return below;
  }

  int price(int row, int v) {
    if (isOut(row, 0, 6) || isOut(v, -1000000, 1000000)) {
      return BAD;
    }
    prices[row] = v;
    return 0;
  }

  int pricesOver(int n) {
    if (isOut(n, 1, 1000000)) {
      return BAD;
    }
    int was = pricesBelow;
    pricesBelow = n;
    return was;
  }

  int check() {
    return HandOracle.check(m, plan, below);
  }

  int shows() {
    return HandOracle.shows(m, plan, below, prices, pricesBelow);
  }

  long sum(int row, int part) {
    return isNoRow(row) || isOut(part, 0, 1) ? BAD : HandOracle.sum(m, row, plan, below, part);
  }

  int count(int what) {
    int counting = 0;
    for (int r = 0; r < m.rows; r++) {
      counting += m.counts[r];
    }
    int whole = 0;
    int switches = 0;
    for (int c = 0; c < m.columns; c++) {
      whole += m.kind[c] > 0 ? 1 : 0;
      switches += m.kind[c] > 1 ? 1 : 0;
    }
    return isOut(what, 0, 5) ? BAD : new int[] {m.columns, m.rows, counting, whole, switches, solved}[what];
  }

  @Override
  public String toString() {
    return m.toString();
  }
}
