/**
 * A court where least sums are sought and each answer can be shown. What
 * each call promises stands in DOC.md under the promise's number.
 */
public final class BoundCourt {
  public static final int BAD = -2000000001, NO = -2000000002, FULL = -2000000003, NONE = -2000000005;

  private static final int COLUMNS = 5;
  private static final int ROWS = 7;

  private static final int PLAIN = 0;
  private static final int WHOLE = 1;
  private static final int SWITCH = 2;

  private static final int AT_MOST = 0;
  private static final int AT_LEAST = 1;
  private static final int JUST = 2;

  private static final int BEST = 0;
  private static final int NEVER = 1;
  private static final int ENDLESS = 2;
  private static final int UNSOLVED = 3;

  private static final int FARTHEST_BOUND = 20;
  private static final int WIDEST_WHOLE = 9;
  private static final int GREATEST_FACTOR = 9;
  private static final int GREATEST_NUMBER = 99;
  private static final int GREATEST_PUT = 1000000000;
  private static final int GREATEST_PRICE = 1000000;
  private static final int GREATEST_BELOW = 1000000;

  private final Program program = new Program();
  private final Best best = new Best();
  private final Search search = new Search();
  private final Quarrels quarrels = new Quarrels();
  private final Hand hand = new Hand();
  private int solved = 0;

  public BoundCourt() {
  }

  // ---- the program

  public int column(int kind, int least, int greatest) {
    if (!isKind(kind) || !Program.fits(kind, least, greatest)) {
      return BAD;
    }
    return program.addColumn(kind, least, greatest);
  }

  public int bound(int column, int least, int greatest) {
    if (!program.hasColumn(column)) {
      return BAD;
    }
    if (program.isSwitch(column)) {
      return NO;
    }
    if (!Program.fits(program.kinds[column], least, greatest)) {
      return BAD;
    }
    program.leasts[column] = least;
    program.greatests[column] = greatest;
    return 0;
  }

  public int partner(int column, int other) {
    if (!program.hasColumn(column) || other == column) {
      return BAD;
    }
    if (other != NONE && !program.hasColumn(other)) {
      return BAD;
    }
    if (!program.isSwitch(column)) {
      return NO;
    }
    int was = program.partners[column];
    program.partners[column] = other;
    return was;
  }

  public int cost(int column, int v) {
    if (!program.hasColumn(column) || !isWithin(v, GREATEST_FACTOR)) {
      return BAD;
    }
    int was = program.costs[column];
    program.costs[column] = v;
    return was;
  }

  public int row(int kind, int number) {
    if (kind < AT_MOST || kind > JUST || !isWithin(number, GREATEST_NUMBER)) {
      return BAD;
    }
    return program.addRow(kind, number);
  }

  public int share(int row, int column, int v) {
    if (!program.hasRow(row) || !program.hasColumn(column) || !isWithin(v, GREATEST_FACTOR)) {
      return BAD;
    }
    int was = program.shareOf(row, column);
    program.shares[row * COLUMNS + column] = v;
    return was;
  }

  public int number(int row, int v) {
    if (!program.hasRow(row) || !isWithin(v, GREATEST_NUMBER)) {
      return BAD;
    }
    int was = program.numbers[row];
    program.numbers[row] = v;
    return was;
  }

  public int counts(int row, int does) {
    if (!program.hasRow(row) || !isBit(does)) {
      return BAD;
    }
    int was = program.counting[row];
    program.counting[row] = does;
    return was;
  }

  public int isOf(int column, int kind) {
    if (!program.hasColumn(column) || !isKind(kind)) {
      return BAD;
    }
    return program.kinds[column] >= kind ? 1 : 0;
  }

  public int about(int column, int what) {
    if (!program.hasColumn(column)) {
      return BAD;
    }
    switch (what) {
      case 0:
        return program.leasts[column];
      case 1:
        return program.greatests[column];
      case 2:
        return program.costs[column];
      case 3:
        return program.partners[column];
      default:
        return BAD;
    }
  }

  public int told(int row, int what) {
    if (!program.hasRow(row)) {
      return BAD;
    }
    switch (what) {
      case 0:
        return program.rowKinds[row];
      case 1:
        return program.numbers[row];
      case 2:
        return program.counting[row];
      default:
        return what > 2 && program.hasColumn(what - 3) ? program.shareOf(row, what - 3) : BAD;
    }
  }

  // ---- solving

  public int solve(int loosely) {
    if (!isBit(loosely)) {
      return BAD;
    }
    solved++;
    search.run(program, best, NONE, 0, loosely == 0);
    return best.outcome;
  }

  public int worth(int row, int d, int loosely) {
    if (!program.hasRow(row) || !isWithin(d, GREATEST_NUMBER) || !isBit(loosely)) {
      return BAD;
    }
    solved++;
    search.run(program, best, row, d, loosely == 0);
    return best.outcome;
  }

  public long least(int part) {
    if (!isBit(part)) {
      return BAD;
    }
    if (best.outcome != BEST) {
      return NO;
    }
    return inLowestTerms(best.cost, best.below, part);
  }

  public long value(int column, int part) {
    if (!program.hasColumn(column) || !isBit(part)) {
      return BAD;
    }
    if (best.outcome != BEST) {
      return NO;
    }
    return inLowestTerms(best.values[column], best.below, part);
  }

  public int quarrel() {
    return quarrels.smallest(program);
  }

  // ---- in hand

  public int put(int column, int v) {
    if (column < 0 || column >= COLUMNS || !isWithin(v, GREATEST_PUT)) {
      return BAD;
    }
    hand.plan[column] = v;
    return 0;
  }

  public int over(int n) {
    if (!isBelow(n)) {
      return BAD;
    }
    int was = (int) hand.planBelow;
    hand.planBelow = n;
    return was;
  }

  public long take() {
    if (best.outcome != BEST) {
      return NO;
    }
    hand.grasp(best);
    return hand.planBelow;
  }

  public int price(int row, int v) {
    if (row < 0 || row >= ROWS || !isWithin(v, GREATEST_PRICE)) {
      return BAD;
    }
    hand.prices[row] = v;
    return 0;
  }

  public int pricesOver(int n) {
    if (!isBelow(n)) {
      return BAD;
    }
    int was = hand.pricesBelow;
    hand.pricesBelow = n;
    return was;
  }

  public int check() {
    return hand.firstWrong(program);
  }

  public int shows() {
    return hand.firstDoubt(program);
  }

  public long sum(int row, int part) {
    if (!program.hasRow(row) || !isBit(part)) {
      return BAD;
    }
    return inLowestTerms(program.sumIn(row, hand.plan), hand.planBelow, part);
  }

  public int count(int what) {
    switch (what) {
      case 0:
        return program.columns;
      case 1:
        return program.rows;
      case 2:
        return Integer.bitCount(program.countingSet());
      case 3:
        return program.columnsOf(WHOLE);
      case 4:
        return program.columnsOf(SWITCH);
      case 5:
        return solved;
      default:
        return BAD;
    }
  }

  // ---- what the calls share

  private static boolean isBit(int v) {
    return v == 0 || v == 1;
  }

  private static boolean isKind(int v) {
    return v >= PLAIN && v <= SWITCH;
  }

  private static boolean isBelow(int n) {
    return n >= 1 && n <= GREATEST_BELOW;
  }

  private static boolean isWithin(int v, int greatest) {
    return v >= -greatest && v <= greatest;
  }

  private static long commonDivisor(long a, long b) {
    long x = Math.abs(a);
    long y = Math.abs(b);
    // Euclid takes fewer than a hundred steps for any two longs.
    for (int step = 0; step < 200 && y != 0; step++) {
      long rest = x % y;
      x = y;
      y = rest;
    }
    return x;
  }

  private static long inLowestTerms(long above, long below, int part) {
    long common = commonDivisor(above, below);
    if (common == 0) {
      return part;
    }
    return (part == 0 ? above : below) / common;
  }

  /** Columns, rows and shares, as the calls told them. */
  private static final class Program {
    final int[] kinds = new int[COLUMNS];
    final int[] leasts = new int[COLUMNS];
    final int[] greatests = new int[COLUMNS];
    final int[] costs = new int[COLUMNS];
    final int[] partners = new int[COLUMNS];
    final int[] rowKinds = new int[ROWS];
    final int[] numbers = new int[ROWS];
    final int[] counting = new int[ROWS];
    final int[] shares = new int[ROWS * COLUMNS];
    int columns = 0;
    int rows = 0;

    static boolean fits(int kind, int least, int greatest) {
      if (kind == SWITCH) {
        return true;
      }
      if (!isWithin(least, FARTHEST_BOUND)) {
        return false;
      }
      if (greatest == NONE) {
        return kind == PLAIN;
      }
      if (greatest < least || greatest > FARTHEST_BOUND) {
        return false;
      }
      return kind == PLAIN || greatest - least <= WIDEST_WHOLE;
    }

    int addColumn(int kind, int least, int greatest) {
      int c = columns;
      if (c < 0 || c >= COLUMNS) {
        return FULL;
      }
      kinds[c] = kind;
      leasts[c] = kind == SWITCH ? 0 : least;
      greatests[c] = kind == SWITCH ? 1 : greatest;
      partners[c] = NONE;
      columns++;
      return c;
    }

    int addRow(int kind, int number) {
      int r = rows;
      if (r < 0 || r >= ROWS) {
        return FULL;
      }
      rowKinds[r] = kind;
      numbers[r] = number;
      counting[r] = 1;
      rows++;
      return r;
    }

    boolean hasColumn(int c) {
      return c >= 0 && c < columns && c < COLUMNS;
    }

    boolean hasRow(int r) {
      return r >= 0 && r < rows && r < ROWS;
    }

    boolean isWhole(int c) {
      return kinds[c] >= WHOLE;
    }

    boolean isSwitch(int c) {
      return kinds[c] == SWITCH;
    }

    int shareOf(int r, int c) {
      return shares[r * COLUMNS + c];
    }

    int columnsOf(int kind) {
      int found = 0;
      for (int c = 0; c < columns; c++) {
        if (kinds[c] >= kind) {
          found++;
        }
      }
      return found;
    }

    /** The rows that count, as bits. */
    int countingSet() {
      int set = 0;
      for (int r = 0; r < rows; r++) {
        if (counting[r] == 1) {
          set |= 1 << r;
        }
      }
      return set;
    }

    long sumIn(int r, long[] plan) {
      long total = 0;
      for (int c = 0; c < columns && c < plan.length; c++) {
        total += shareOf(r, c) * plan[c];
      }
      return total;
    }

    boolean isKept(int r, long[] plan, long below) {
      int side = Long.compare(sumIn(r, plan), numbers[r] * below);
      return side == 0 || rowKinds[r] == (side < 0 ? AT_MOST : AT_LEAST);
    }

    /** What divides each sum of the row in plans that are right; 0: nothing is known to. */
    int divisorIn(int r) {
      long common = 0;
      for (int c = 0; c < columns; c++) {
        int share = shareOf(r, c);
        if (share != 0 && !isWhole(c)) {
          return 0;
        }
        common = commonDivisor(common, share);
      }
      return (int) common;
    }
  }

  /** What the last solving came to; its fractions all stand over one number. */
  private static final class Best {
    final long[] values = new long[COLUMNS];
    long cost = 0;
    long below = 1;
    int outcome = UNSOLVED;

    void accept(Table table) {
      outcome = table.isEndless() ? ENDLESS : BEST;
      below = table.below;
      cost = table.costAbove();
      for (int c = 0; c < COLUMNS; c++) {
        values[c] = c < table.columns ? table.valueAbove(c) : 0;
      }
    }

    /** Whether plans behind the table's corner may come ahead of the kept one. */
    boolean mayYieldTo(Table table) {
      if (outcome != BEST || table.isEndless()) {
        return outcome != ENDLESS;
      }
      int order = Long.compare(table.costAbove() * below, cost * table.below);
      for (int c = 0; c < table.columns && order == 0; c++) {
        order = Long.compare(table.valueAbove(c) * below, values[c] * table.below);
      }
      return order < 0;
    }
  }

  /**
   * The dual simplex method in whole numbers. Each line tells a quantity as
   * a sum over the open directions, all over the one number below: the cost,
   * how far each value is above its least, then below its greatest, then how
   * well each row is kept. At the corner every direction is 0.
   *
   * Cost and values stand first because the best plan is the first in just
   * that order: a direction is cheaper than another if the first of these
   * lines that tells them apart says so. So no two are alike, and the corner
   * only ever moves on: no circles.
   *
   * Every cell is a determinant of at most five columns with entries up to
   * 9, and one of numbers and bounds: products of two stay far within a long.
   */
  private static final class Table {
    static final int WIDTH = COLUMNS + 1;
    static final int CORNER = COLUMNS;
    static final int LINES = 1 + COLUMNS + COLUMNS + ROWS;
    // No table has nearly as many corners as this.
    static final int MOST_TURNS = 1000000;

    static final int FREE = 0;
    static final int NOT_BELOW = 1;
    static final int FIXED = 2;

    final long[] cells = new long[LINES * WIDTH];
    final int[] ties = new int[LINES];
    final int[] leasts = new int[COLUMNS];
    final int[] greatests = new int[COLUMNS];
    final int[] greatestLines = new int[COLUMNS];
    final boolean[] shut = new boolean[COLUMNS];
    int columns = 0;
    int lines = 0;
    long below = 1;
    // The direction back from a bound farther than any number, or -1.
    int far = -1;

    void copy(Table other) {
      System.arraycopy(other.cells, 0, cells, 0, LINES * WIDTH);
      System.arraycopy(other.ties, 0, ties, 0, LINES);
      System.arraycopy(other.leasts, 0, leasts, 0, COLUMNS);
      System.arraycopy(other.greatests, 0, greatests, 0, COLUMNS);
      System.arraycopy(other.greatestLines, 0, greatestLines, 0, COLUMNS);
      System.arraycopy(other.shut, 0, shut, 0, COLUMNS);
      columns = other.columns;
      lines = other.lines;
      below = other.below;
      far = other.far;
    }

    void begin(Program program, boolean priced) {
      columns = program.columns;
      lines = 0;
      below = 1;
      far = -1;
      for (int i = 0; i <= columns; i++) {
        addLine(i == 0 ? FREE : NOT_BELOW);
      }
      for (int c = 0; c < columns; c++) {
        beginColumn(program, c, priced ? program.costs[c] : 0);
      }
    }

    /** The line's first cell; its cells are 0. */
    int addLine(int tie) {
      int at = lines * WIDTH;
      if (lines >= LINES) {
        return 0;
      }
      for (int k = 0; k < WIDTH; k++) {
        cells[at + k] = 0;
      }
      ties[lines] = tie;
      lines++;
      return at;
    }

    /** A column starts from that bound from which each step away costs. */
    void beginColumn(Program program, int c, int price) {
      int low = program.leasts[c];
      int high = program.greatests[c];
      boolean fromHigh = price < 0 && high != NONE;
      int start = fromHigh ? high : low;
      int way = fromHigh ? -1 : 1;
      leasts[c] = low;
      greatests[c] = high;
      greatestLines[c] = -1;
      shut[c] = false;
      cells[c] = price * way;
      cells[CORNER] += price * start;
      cells[(1 + c) * WIDTH + c] = way;
      cells[(1 + c) * WIDTH + CORNER] = start - low;
      if (high != NONE) {
        greatestLines[c] = lines;
        int at = addLine(NOT_BELOW);
        cells[at + c] = -way;
        cells[at + CORNER] = high - start;
      }
    }

    void addRow(Program program, int r, int number) {
      int kind = program.rowKinds[r];
      int way = kind == AT_MOST ? -1 : 1;
      int at = addLine(kind == JUST ? FIXED : NOT_BELOW);
      long corner = -number;
      for (int c = 0; c < columns; c++) {
        long share = program.shareOf(r, c);
        corner += share * valueAbove(c);
        cells[at + c] = way * share * cells[(1 + c) * WIDTH + c];
      }
      cells[at + CORNER] = way * corner;
    }

    /**
     * Where growth saves without end, the columns that do so are held
     * together by a bound beyond all numbers, and the one that saves most
     * starts from there: then each step away costs again. Since the bound
     * less the direction back from it is all that a line can hold of both,
     * a line's part of the bound is its cell there, negated.
     */
    void reachFar() {
      int endless = 0;
      int most = -1;
      for (int k = 0; k < columns; k++) {
        if (cells[k] < 0) {
          endless |= 1 << k;
          most = most < 0 || cells[k] <= cells[most] ? k : most;
        }
      }
      for (int i = 0; i < lines && most >= 0; i++) {
        long held = cells[i * WIDTH + most];
        for (int k = 0; k < columns; k++) {
          if ((endless >> k & 1) == 1) {
            cells[i * WIDTH + k] -= held;
          }
        }
        cells[i * WIDTH + most] = -held;
      }
      far = most;
    }

    /** Moves to the best corner; false: there is no plan. */
    boolean descend() {
      for (int turns = 0; turns < MOST_TURNS; turns++) {
        int line = brokenLine();
        if (line < 0) {
          return true;
        }
        int k = cheapestWay(line);
        if (k < 0) {
          return false;
        }
        turn(line, k);
      }
      return false;
    }

    int brokenLine() {
      for (int i = 0; i < lines; i++) {
        int side = ties[i] == FREE ? 0 : sideOf(i);
        if (side < 0 || (side > 0 && ties[i] == FIXED)) {
          return i;
        }
      }
      return -1;
    }

    /** Below 0, 0, or above: what the line comes to at the corner. */
    int sideOf(int line) {
      long back = far < 0 ? 0 : cells[line * WIDTH + far];
      return back != 0 ? Long.compare(0, back) : Long.compare(cells[line * WIDTH + CORNER], 0);
    }

    int cheapestWay(int line) {
      int side = sideOf(line);
      int chosen = -1;
      for (int k = 0; k < columns; k++) {
        if (!shut[k] && cells[line * WIDTH + k] * side < 0 && (chosen < 0 || isCheaper(line, k, chosen))) {
          chosen = k;
        }
      }
      return chosen;
    }

    boolean isCheaper(int line, int k, int other) {
      long gain = Math.abs(cells[line * WIDTH + k]);
      long otherGain = Math.abs(cells[line * WIDTH + other]);
      int order = 0;
      for (int i = 0; i <= columns && order == 0; i++) {
        order = Long.compare(cells[i * WIDTH + k] * otherGain, cells[i * WIDTH + other] * gain);
      }
      return order < 0;
    }

    /** The line becomes the direction k; what it must not leave is shut. */
    void turn(int line, int k) {
      int from = line * WIDTH;
      int way = cells[from + k] < 0 ? -1 : 1;
      long pivot = way * cells[from + k];
      if (pivot == 0 || below == 0) {
        return;
      }
      for (int i = 0; i < lines; i++) {
        int at = i * WIDTH;
        long factor = way * cells[at + k];
        if (i != line && (factor != 0 || pivot != below)) {
          for (int j = 0; j < WIDTH; j++) {
            if (j != k && (j >= columns || !shut[j])) {
              cells[at + j] = (pivot * cells[at + j] - factor * cells[from + j]) / below;
            }
          }
        }
      }
      for (int j = 0; j < WIDTH; j++) {
        cells[from + j] = 0;
      }
      cells[from + k] = pivot;
      below = pivot;
      shut[k] = ties[line] == FIXED;
      far = far == k ? -1 : far;
    }

    /** At a best corner that still lies at the far bound, cost falls with it. */
    boolean isEndless() {
      return far >= 0;
    }

    long costAbove() {
      return cells[CORNER];
    }

    long valueAbove(int c) {
      return leasts[c] * below + cells[(1 + c) * WIDTH + CORNER];
    }

    boolean isNothing(int c) {
      return valueAbove(c) == 0 && (far < 0 || cells[(1 + c) * WIDTH + far] == 0);
    }

    int wholePart(int c) {
      return below == 0 ? 0 : (int) Math.floorDiv(valueAbove(c), below);
    }

    boolean isBroken(int c) {
      return valueAbove(c) != wholePart(c) * below;
    }

    void raise(int c, int low) {
      cells[(1 + c) * WIDTH + CORNER] -= (low - leasts[c]) * below;
      leasts[c] = low;
    }

    void lower(int c, int high) {
      int line = greatestLines[c];
      if (line >= 0 && line < lines) {
        cells[line * WIDTH + CORNER] -= (greatests[c] - high) * below;
        greatests[c] = high;
      }
    }

    /** False: 0 is below the least value. (If above the greatest, that line is found broken.) */
    boolean holdAtNothing(int c) {
      if (leasts[c] > 0) {
        return false;
      }
      raise(c, 0);
      ties[1 + c] = FIXED;
      return true;
    }
  }

  /** Splits what is not whole, or not as a switch has it, until it is. */
  private static final class Search {
    // A split narrows a whole column or holds a switch's partner for good.
    static final int LEVELS = COLUMNS * WIDEST_WHOLE + COLUMNS + 1;
    // Five whole columns have a hundred thousand plans; each level is seen thrice.
    static final int MOST_STEPS = 1000000;

    final Table[] tables = new Table[LEVELS];
    final int[] splits = new int[LEVELS];
    final int[] stages = new int[LEVELS];

    Table tableAt(int level) {
      Table table = tables[level];
      if (table == null) {
        table = new Table();
        tables[level] = table;
      }
      return table;
    }

    void run(Program program, Best best, int moved, int d, boolean strictly) {
      Table root = tableAt(0);
      best.outcome = NEVER;
      root.begin(program, true);
      for (int r = 0; r < program.rows; r++) {
        int number = program.numbers[r] + (r == moved ? d : 0);
        int divisor = strictly ? program.divisorIn(r) : 0;
        if (program.counting[r] == 1) {
          if (isOutOfStep(program.rowKinds[r], number, divisor)) {
            return;
          }
          root.addRow(program, r, inStep(program.rowKinds[r], number, divisor));
        }
      }
      root.reachFar();
      if (!root.descend()) {
        return;
      }
      if (strictly) {
        branch(program, best);
      } else {
        best.accept(root);
      }
    }

    // Odd numbers for even sums would take a search through all plans to refuse.
    static boolean isOutOfStep(int kind, int number, int divisor) {
      return kind == JUST && divisor > 0 && number % divisor != 0;
    }

    static int inStep(int kind, int number, int divisor) {
      if (divisor <= 0 || kind == JUST) {
        return number;
      }
      int down = Math.floorDiv(number, divisor) * divisor;
      return kind == AT_MOST || down == number ? down : down + divisor;
    }

    void branch(Program program, Best best) {
      int level = 0;
      stages[0] = 0;
      for (int step = 0; step < MOST_STEPS && level >= 0; step++) {
        Table table = tableAt(level);
        if (stages[level] == 2 || !best.mayYieldTo(table)) {
          level--;
        } else {
          if (stages[level] == 0) {
            splits[level] = columnToSplit(program, table);
          }
          if (splits[level] < 0) {
            best.accept(table);
            level--;
          } else {
            level = enter(program, level);
          }
        }
      }
    }

    int columnToSplit(Program program, Table table) {
      for (int c = 0; c < program.columns; c++) {
        if (program.isWhole(c) && table.isBroken(c)) {
          return c;
        }
      }
      for (int c = 0; c < program.columns; c++) {
        int p = program.partners[c];
        if (program.isSwitch(c) && program.hasColumn(p) && table.isNothing(c) && !table.isNothing(p)) {
          return c;
        }
      }
      return -1;
    }

    /** Goes into the next half of the level, if there are plans in it. */
    int enter(Program program, int level) {
      boolean isUpper = stages[level] == 1;
      stages[level]++;
      if (level + 1 >= LEVELS) {
        return level;
      }
      Table half = tableAt(level + 1);
      half.copy(tableAt(level));
      if (!narrow(program, half, splits[level], isUpper) || !half.descend()) {
        return level;
      }
      stages[level + 1] = 0;
      return level + 1;
    }

    boolean narrow(Program program, Table half, int c, boolean isUpper) {
      int whole = half.wholePart(c);
      if (isUpper) {
        half.raise(c, whole + 1);
        return true;
      }
      half.lower(c, whole);
      int p = program.partners[c];
      return !program.isSwitch(c) || !program.hasColumn(p) || half.holdAtNothing(p);
    }
  }

  /** Looks for the least set of rows that no plan within bounds keeps. */
  private static final class Quarrels {
    static final int SETS = 1 << ROWS;

    final Table table = new Table();
    final long[] plan = new long[COLUMNS];
    final boolean[] peaceful = new boolean[SETS];

    int smallest(Program program) {
      int counting = program.countingSet();
      for (int set = 0; set < SETS; set++) {
        peaceful[set] = false;
      }
      if (makesPeace(program, counting)) {
        return 0;
      }
      for (int size = 1; size <= ROWS; size++) {
        for (int set = 1; set < SETS; set++) {
          boolean isNext = (set & ~counting) == 0 && Integer.bitCount(set) == size;
          if (isNext && !peaceful[set] && !makesPeace(program, set)) {
            return set;
          }
        }
      }
      return 0;
    }

    /** Whether a plan keeps the rows; what else it keeps need not be asked. */
    boolean makesPeace(Program program, int set) {
      table.begin(program, false);
      for (int r = 0; r < program.rows; r++) {
        if ((set >> r & 1) == 1) {
          table.addRow(program, r, program.numbers[r]);
        }
      }
      if (!table.descend()) {
        return false;
      }
      for (int c = 0; c < program.columns; c++) {
        plan[c] = table.valueAbove(c);
      }
      int broken = 0;
      for (int r = 0; r < program.rows; r++) {
        broken |= program.isKept(r, plan, table.below) ? 0 : 1 << r;
      }
      for (int other = 0; other < SETS; other++) {
        peaceful[other] = peaceful[other] || (other & broken) == 0;
      }
      return true;
    }
  }

  /** A plan and prices, and what they are found to be. */
  private static final class Hand {
    final long[] plan = new long[COLUMNS];
    final int[] prices = new int[ROWS];
    long planBelow = 1;
    int pricesBelow = 1;

    void grasp(Best best) {
      long common = best.below;
      for (int c = 0; c < COLUMNS; c++) {
        common = commonDivisor(common, best.values[c]);
      }
      if (common == 0) {
        return;
      }
      for (int c = 0; c < COLUMNS; c++) {
        plan[c] = best.values[c] / common;
      }
      planBelow = best.below / common;
    }

    boolean isAtLeastOf(Program program, int c) {
      return plan[c] == program.leasts[c] * planBelow;
    }

    boolean isAtGreatestOf(Program program, int c) {
      return program.greatests[c] != NONE && plan[c] == program.greatests[c] * planBelow;
    }

    boolean isInBounds(Program program, int c) {
      boolean isHigh = program.greatests[c] != NONE && plan[c] > program.greatests[c] * planBelow;
      return !isHigh && plan[c] >= program.leasts[c] * planBelow;
    }

    boolean isWell(Program program, int c) {
      if (!isInBounds(program, c)) {
        return false;
      }
      if (program.isWhole(c) && planBelow != 0 && plan[c] % planBelow != 0) {
        return false;
      }
      int p = program.partners[c];
      return !program.isSwitch(c) || plan[c] != 0 || !program.hasColumn(p) || plan[p] == 0;
    }

    /** The first row that counts and is not kept, or -1. */
    int brokenRow(Program program) {
      for (int r = 0; r < program.rows; r++) {
        if (program.counting[r] == 1 && !program.isKept(r, plan, planBelow)) {
          return r;
        }
      }
      return -1;
    }

    int firstWrong(Program program) {
      for (int c = 0; c < program.columns; c++) {
        if (!isWell(program, c)) {
          return 1 + c;
        }
      }
      int r = brokenRow(program);
      return r < 0 ? 0 : 100 + r;
    }

    int firstDoubt(Program program) {
      if (!isLooselyRight(program)) {
        return 1;
      }
      if (hasWrongPrice(program)) {
        return 2;
      }
      if (hasWrongRest(program)) {
        return 3;
      }
      return hasIdlePrice(program) ? 4 : 0;
    }

    boolean isLooselyRight(Program program) {
      for (int c = 0; c < program.columns; c++) {
        if (!isInBounds(program, c)) {
          return false;
        }
      }
      return brokenRow(program) < 0;
    }

    boolean hasWrongPrice(Program program) {
      for (int r = 0; r < program.rows; r++) {
        boolean isWrong = program.rowKinds[r] == (prices[r] > 0 ? AT_MOST : AT_LEAST);
        if (program.counting[r] == 1 && prices[r] != 0 && isWrong) {
          return true;
        }
      }
      return false;
    }

    boolean hasWrongRest(Program program) {
      for (int c = 0; c < program.columns; c++) {
        long left = leftOf(program, c);
        if (left < 0 && !isAtGreatestOf(program, c)) {
          return true;
        }
        if (left > 0 && !isAtLeastOf(program, c)) {
          return true;
        }
      }
      return false;
    }

    /** What is left of a column, over what prices are over. */
    long leftOf(Program program, int c) {
      long left = (long) program.costs[c] * pricesBelow;
      for (int r = 0; r < program.rows; r++) {
        if (program.counting[r] == 1) {
          left -= (long) program.shareOf(r, c) * prices[r];
        }
      }
      return left;
    }

    boolean hasIdlePrice(Program program) {
      for (int r = 0; r < program.rows; r++) {
        boolean isMet = program.sumIn(r, plan) == program.numbers[r] * planBelow;
        if (program.counting[r] == 1 && prices[r] != 0 && !isMet) {
          return true;
        }
      }
      return false;
    }
  }
}
