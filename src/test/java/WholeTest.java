import java.util.Random;

/** Promises 13 to 16: wide programs of whole columns and switches alone, answered as trying all their plans answers them. */
public final class WholeTest {
  private static final Due due = new Due("whole columns");
  private static final int SIZE = 2 * 5 + 7 * 2;
  private static int best = 0;
  private static int never = 0;

  /** Found by a search for depth: their best plans are seen only after 31 to 35 splits. */
  private static final int[][] DEEP = {
      {9, -6, 9, 8, 8, -6, 9, 3, 7, -5, 2, 56, -8, 8, -8, 8, 7, 0, 1, -8, 1, -6, 9, -6},
      {5, -6, 9, 7, 9, -1, 9, 2, 7, 3, 2, 47, 8, 0, -8, 8, 9, 1, 12, -3, 9, -3, 4, -9},
      {9, -4, 9, 5, 9, -5, 8, -5, 9, -1, 2, -89, -8, -8, 9, 9, -9, 1, 50, 2, 6, 5, 1, -6},
      {8, 9, 9, -1, 8, 4, 5, -2, 9, 2, 2, -41, 0, 8, -7, -8, -8, 1, -22, 5, -1, -9, -3, 2},
      {8, -7, 9, -8, 9, 3, 9, 0, 8, -8, 2, 51, -5, -8, 8, 8, 8, 1, 7, 8, -3, 0, -1, -3}};

  public static void main(String[] args) {
    int rounds = args.length > 0 ? Integer.parseInt(args[0]) : 60;
    Random random = new Random(args.length > 1 ? Long.parseLong(args[1]) : 20261117L);
    for (int[] numbers : DEEP) {
      compare(deep(numbers));
      for (int i = 0; i < rounds; i++) {
        compare(deep(changed(random, numbers)));
      }
    }
    Model.Draw wide = new Model.Draw();
    wide.kinds = new int[] {1, 1, 1, 1, 2};
    Model.Draw ties = new Model.Draw();
    ties.kinds = wide.kinds;
    ties.factor = 2;
    for (int i = 0; i < 5 * rounds; i++) {
      compare(Model.random(random, wide));
      compare(Model.random(random, ties));
    }
    System.out.println(best + " best, " + never + " never");
    due.holds("both are met often enough", Math.min(best, never) > rounds);
    due.close();
  }

  /** Greatest value and cost of each of five columns from 0, then kind, number and shares of two rows. */
  private static Model deep(int[] numbers) {
    Model m = new Model();
    m.columns = 5;
    m.rows = 2;
    for (int c = 0; c < 5; c++) {
      m.kind[c] = 1;
      m.greatest[c] = numbers[2 * c];
      m.cost[c] = numbers[2 * c + 1];
      m.partner[c] = Model.NONE;
    }
    for (int r = 0; r < 2; r++) {
      int at = 10 + 7 * r;
      m.rowKind[r] = numbers[at];
      m.number[r] = numbers[at + 1];
      m.counts[r] = 1;
      System.arraycopy(numbers, at + 2, m.share[r], 0, 5);
    }
    return m;
  }

  private static int[] changed(Random random, int[] numbers) {
    int[] other = numbers.clone();
    int at = random.nextInt(SIZE);
    if (at < 10) {
      other[at] = random.nextInt(10) - (at % 2 == 0 ? 0 : random.nextInt(10));
    } else {
      int which = (at - 10) % 7;
      int farthest = which == 1 ? 99 : 9;
      int near = numbers[at] + random.nextInt(5) - 2;
      other[at] = which == 0 ? random.nextInt(3) : Math.max(-farthest, Math.min(farthest, near));
    }
    return other;
  }

  private static void compare(Model m) {
    BoundCourt x = m.told();
    int outcome = x.solve(0);
    int[] plan = leastOf(m);
    due.is("solve(0) of " + m, outcome, plan == null ? Due.NEVER : Due.BEST);
    best += plan == null ? 0 : 1;
    never += plan == null ? 1 : 0;
    if (plan == null || outcome != Due.BEST) {
      return;
    }
    due.is("least(0) of " + m, x.least(0), costOf(m, plan));
    due.is("least(1) of " + m, x.least(1), 1);
    for (int c = 0; c < m.columns; c++) {
      due.is("value(" + c + ", 0) of " + m, x.value(c, 0), plan[c]);
      due.is("value(" + c + ", 1) of " + m, x.value(c, 1), 1);
    }
  }

  /** All plans in the order of their values, so that the first of those that cost least is kept. */
  private static int[] leastOf(Model m) {
    int[] plan = new int[m.columns];
    System.arraycopy(m.least, 0, plan, 0, m.columns);
    int[] found = null;
    boolean isMore = true;
    while (isMore) {
      if ((found == null || costOf(m, plan) < costOf(m, found)) && isRight(m, plan)) {
        found = plan.clone();
      }
      isMore = next(m, plan);
    }
    return found;
  }

  private static boolean next(Model m, int[] plan) {
    for (int c = m.columns - 1; c >= 0; c--) {
      if (plan[c] < m.greatest[c]) {
        plan[c]++;
        return true;
      }
      plan[c] = m.least[c];
    }
    return false;
  }

  private static int costOf(Model m, int[] plan) {
    int cost = 0;
    for (int c = 0; c < m.columns; c++) {
      cost += plan[c] * m.cost[c];
    }
    return cost;
  }

  private static boolean isRight(Model m, int[] plan) {
    for (int c = 0; c < m.columns; c++) {
      if (m.partner[c] != Model.NONE && plan[c] == 0 && plan[m.partner[c]] != 0) {
        return false;
      }
    }
    for (int r = 0; r < m.rows; r++) {
      int sum = 0;
      for (int c = 0; c < m.columns; c++) {
        sum += plan[c] * m.share[r][c];
      }
      boolean isKept = m.rowKind[r] == 0 ? sum <= m.number[r] : m.rowKind[r] == 1 ? sum >= m.number[r] : sum == m.number[r];
      if (m.counts[r] == 1 && !isKept) {
        return false;
      }
    }
    return true;
  }
}
