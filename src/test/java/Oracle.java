import java.math.BigInteger;
import java.util.ArrayList;
import java.util.List;

/**
 * Answers by trying everything: each choice of whole values, each corner where
 * as many bounds and rows meet as there are columns, each edge without end.
 * Nothing of it is shared with the program.
 */
final class Oracle {
  static final int NONE = BoundCourt.NONE;

  /** Values and cost over one number. */
  static final class Plan {
    long[] values;
    long cost;
    long below;
  }

  /** factors times unknowns is at most (0), at least (1) or just (2) the number. */
  private record Line(int kind, long[] factors, long number) {
  }

  private final Model model;
  private Plan best = null;
  private boolean endless = false;

  private Oracle(Model model) {
    this.model = model;
  }

  static final class Answer {
    int outcome;
    Plan plan;
  }

  static Answer solve(Model model, boolean strictly) {
    Oracle oracle = new Oracle(model);
    oracle.choose(0, new Long[model.columns], strictly);
    Answer answer = new Answer();
    answer.outcome = oracle.endless ? 2 : oracle.best == null ? 1 : 0;
    answer.plan = oracle.best;
    return answer;
  }

  static int quarrel(Model model) {
    int found = 0;
    for (int set = 1; set < 1 << model.rows; set++) {
      boolean isLess = found == 0 || Integer.bitCount(set) < Integer.bitCount(found);
      if (isLess && quarrels(model, set)) {
        found = set;
      }
    }
    return found;
  }

  private static boolean quarrels(Model model, int set) {
    for (int r = 0; r < model.rows; r++) {
      if ((set >> r & 1) == 1 && model.counts[r] == 0) {
        return false;
      }
    }
    Model part = new Model();
    part.columns = model.columns;
    System.arraycopy(model.least, 0, part.least, 0, 5);
    System.arraycopy(model.greatest, 0, part.greatest, 0, 5);
    java.util.Arrays.fill(part.partner, NONE);
    for (int r = 0; r < model.rows; r++) {
      if ((set >> r & 1) == 1) {
        part.rowKind[part.rows] = model.rowKind[r];
        part.number[part.rows] = model.number[r];
        part.counts[part.rows] = 1;
        part.share[part.rows] = model.share[r];
        part.rows++;
      }
    }
    return solve(part, false).outcome == 1;
  }

  private void choose(int c, Long[] fixed, boolean strictly) {
    if (c == model.columns) {
      finish(fixed, strictly);
      return;
    }
    if (!strictly || model.kind[c] == 0) {
      fixed[c] = null;
      choose(c + 1, fixed, strictly);
      return;
    }
    for (long v = model.least[c]; v <= model.greatest[c]; v++) {
      fixed[c] = v;
      choose(c + 1, fixed, strictly);
    }
    fixed[c] = null;
  }

  private void finish(Long[] chosen, boolean strictly) {
    Long[] fixed = chosen.clone();
    for (int c = 0; c < model.columns && strictly; c++) {
      if (model.kind[c] == 2 && model.partner[c] != NONE && chosen[c] == 0) {
        int p = model.partner[c];
        if (fixed[p] != null && fixed[p] != 0) {
          return;
        }
        fixed[p] = 0L;
      }
    }
    for (int c = 0; c < model.columns; c++) {
      if (fixed[c] != null && (fixed[c] < model.least[c] || (model.greatest[c] != NONE && fixed[c] > model.greatest[c]))) {
        return;
      }
    }
    List<Integer> open = new ArrayList<>();
    for (int c = 0; c < model.columns; c++) {
      if (fixed[c] == null) {
        open.add(c);
      }
    }
    List<Line> lines = lines(fixed, open, false);
    boolean isAny = corners(lines, open, fixed);
    if (isAny && fallsWithoutEnd(lines(fixed, open, true), open)) {
      endless = true;
    }
  }

  private List<Line> lines(Long[] fixed, List<Integer> open, boolean isForEdges) {
    List<Line> lines = new ArrayList<>();
    for (int i = 0; i < open.size(); i++) {
      int c = open.get(i);
      long[] unit = new long[open.size()];
      unit[i] = 1;
      lines.add(new Line(1, unit, isForEdges ? 0 : model.least[c]));
      if (model.greatest[c] != NONE) {
        lines.add(new Line(0, unit, isForEdges ? 0 : model.greatest[c]));
      }
    }
    for (int r = 0; r < model.rows; r++) {
      if (model.counts[r] == 1) {
        long number = model.number[r];
        for (int c = 0; c < model.columns; c++) {
          number -= fixed[c] == null ? 0 : model.share[r][c] * fixed[c];
        }
        long[] factors = new long[open.size()];
        for (int i = 0; i < open.size(); i++) {
          factors[i] = model.share[r][open.get(i)];
        }
        lines.add(new Line(model.rowKind[r], factors, isForEdges ? 0 : number));
      }
    }
    return lines;
  }

  /** Looks at every corner; false: there is none, and so no plan. */
  private boolean corners(List<Line> lines, List<Integer> open, Long[] fixed) {
    boolean isAny = false;
    for (int[] pick : picks(lines.size(), open.size())) {
      long[] point = meet(lines, pick, open.size());
      if (point != null && keepsAll(lines, point)) {
        isAny = true;
        consider(point, open, fixed);
      }
    }
    return isAny;
  }

  private void consider(long[] point, List<Integer> open, Long[] fixed) {
    Plan plan = new Plan();
    plan.below = point[open.size()];
    plan.values = new long[model.columns];
    for (int c = 0; c < model.columns; c++) {
      plan.values[c] = fixed[c] == null ? point[open.indexOf(c)] : Math.multiplyExact(fixed[c], plan.below);
      plan.cost = Math.addExact(plan.cost, Math.multiplyExact(model.cost[c], plan.values[c]));
    }
    if (best == null || isAhead(plan, best)) {
      best = plan;
    }
  }

  private static int order(long a, long below, long b, long otherBelow) {
    return big(a).multiply(big(otherBelow)).compareTo(big(b).multiply(big(below)));
  }

  private static BigInteger big(long v) {
    return BigInteger.valueOf(v);
  }

  private static boolean isAhead(Plan a, Plan b) {
    int order = order(a.cost, a.below, b.cost, b.below);
    for (int c = 0; c < a.values.length && order == 0; c++) {
      order = order(a.values[c], a.below, b.values[c], b.below);
    }
    return order < 0;
  }

  private boolean fallsWithoutEnd(List<Line> lines, List<Integer> open) {
    long[] ones = new long[open.size()];
    java.util.Arrays.fill(ones, 1);
    List<Line> bent = new ArrayList<>(lines);
    bent.add(new Line(2, ones, 1));
    for (int[] pick : picks(lines.size(), open.size() - 1)) {
      int[] whole = java.util.Arrays.copyOf(pick, pick.length + 1);
      whole[pick.length] = lines.size();
      long[] edge = meet(bent, whole, open.size());
      if (edge != null && keepsAll(bent, edge)) {
        long falls = 0;
        for (int i = 0; i < open.size(); i++) {
          falls += model.cost[open.get(i)] * edge[i];
        }
        if (falls < 0) {
          return true;
        }
      }
    }
    return false;
  }

  private static List<int[]> picks(int from, int size) {
    List<int[]> all = new ArrayList<>();
    if (size >= 0) {
      pick(all, new int[size], 0, 0, from);
    }
    return all;
  }

  private static void pick(List<int[]> all, int[] chosen, int done, int next, int from) {
    if (done == chosen.length) {
      all.add(chosen.clone());
      return;
    }
    for (int i = next; i < from; i++) {
      chosen[done] = i;
      pick(all, chosen, done + 1, i + 1, from);
    }
  }

  /** Where the lines meet: the unknowns and behind them what they are over; null: not in one point. */
  private static long[] meet(List<Line> lines, int[] pick, int size) {
    long[][] a = new long[size][size + 1];
    for (int i = 0; i < size; i++) {
      System.arraycopy(lines.get(pick[i]).factors(), 0, a[i], 0, size);
      a[i][size] = lines.get(pick[i]).number();
    }
    long last = 1;
    for (int k = 0; k < size; k++) {
      int row = k;
      while (row < size && a[row][k] == 0) {
        row++;
      }
      if (row == size) {
        return null;
      }
      long[] swap = a[k];
      a[k] = a[row];
      a[row] = swap;
      for (int i = 0; i < size; i++) {
        if (i != k) {
          long factor = a[i][k];
          for (int j = 0; j <= size; j++) {
            a[i][j] = Math.subtractExact(Math.multiplyExact(a[k][k], a[i][j]), Math.multiplyExact(factor, a[k][j])) / last;
          }
        }
      }
      last = a[k][k];
    }
    long[] point = new long[size + 1];
    long sign = last < 0 ? -1 : 1;
    for (int i = 0; i < size; i++) {
      point[i] = sign * a[i][size];
    }
    point[size] = sign * last;
    return point;
  }

  private static boolean keepsAll(List<Line> lines, long[] point) {
    for (Line line : lines) {
      long sum = 0;
      for (int i = 0; i < point.length - 1; i++) {
        sum = Math.addExact(sum, Math.multiplyExact(line.factors()[i], point[i]));
      }
      long side = Math.subtractExact(sum, Math.multiplyExact(line.number(), point[point.length - 1]));
      if ((side > 0 && line.kind() != 1) || (side < 0 && line.kind() != 0)) {
        return false;
      }
    }
    return true;
  }
}
