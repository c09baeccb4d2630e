import java.util.Random;

/** A program as plain numbers, so that it can be told to a court and to the oracle alike. */
final class Model {
  static final int NONE = BoundCourt.NONE;

  int columns;
  int rows;
  final int[] kind = new int[5];
  final int[] least = new int[5];
  final int[] greatest = new int[5];
  final int[] cost = new int[5];
  final int[] partner = new int[5];
  final int[] rowKind = new int[7];
  final int[] number = new int[7];
  final int[] counts = new int[7];
  final int[][] share = new int[7][5];

  /** How wide random programs are drawn. */
  static final class Draw {
    int mostColumns = 5, mostRows = 7, factor = 9, wholeSpan = 9, justIn = 6, restIn = 8;
    int[] kinds = {0, 1, 2};
    boolean nearby = true;
    boolean extreme = false;

    int factor(Random random) {
      if (extreme) {
        return random.nextBoolean() ? between(random, 8, 9) : between(random, -9, -8);
      }
      return between(random, -factor, factor);
    }
  }

  static int between(Random random, int low, int high) {
    return low + random.nextInt(high - low + 1);
  }

  static Model random(Random random, Draw draw) {
    Model m = new Model();
    m.columns = between(random, draw.mostColumns > 2 ? 1 : 0, draw.mostColumns);
    m.rows = between(random, 0, draw.mostRows);
    for (int c = 0; c < m.columns; c++) {
      drawColumn(random, draw, m, c);
    }
    for (int c = 0; c < m.columns; c++) {
      int other = random.nextInt(m.columns);
      m.partner[c] = m.kind[c] == 2 && other != c && random.nextInt(4) > 0 ? other : NONE;
    }
    for (int r = 0; r < m.rows; r++) {
      drawRow(random, draw, m, r);
    }
    return m;
  }

  private static void drawColumn(Random random, Draw draw, Model m, int c) {
    m.kind[c] = draw.kinds[random.nextInt(draw.kinds.length)];
    m.cost[c] = random.nextInt(3) == 0 ? 0 : draw.factor(random);
    if (m.kind[c] == 2) {
      m.greatest[c] = 1;
      return;
    }
    m.least[c] = random.nextInt(3) == 0 ? 0 : between(random, -12, 11);
    m.greatest[c] = m.least[c] + random.nextInt(draw.wholeSpan + 1);
    if (m.kind[c] == 0 && random.nextInt(2) == 0) {
      m.greatest[c] = NONE;
    }
  }

  private static void drawRow(Random random, Draw draw, Model m, int r) {
    m.rowKind[r] = random.nextInt(draw.justIn) == 0 ? 2 : random.nextInt(2);
    m.counts[r] = random.nextInt(draw.restIn) == 0 ? 0 : 1;
    int near = 0;
    for (int c = 0; c < m.columns; c++) {
      m.share[r][c] = !draw.extreme && random.nextInt(4) == 0 ? 0 : draw.factor(random);
      near += m.share[r][c] * (m.least[c] + (m.kind[c] == 2 ? random.nextInt(2) : 2));
    }
    boolean isNear = draw.nearby && random.nextInt(6) > 0;
    int moved = isNear ? near + (m.rowKind[r] == 0 ? 1 : m.rowKind[r] == 1 ? -1 : 0) * random.nextInt(9) : between(random, -99, 99);
    m.number[r] = Math.max(-99, Math.min(99, moved));
  }

  BoundCourt told() {
    BoundCourt x = new BoundCourt();
    for (int c = 0; c < columns; c++) {
      x.column(kind[c], least[c], greatest[c]);
      x.cost(c, cost[c]);
    }
    for (int c = 0; c < columns; c++) {
      if (partner[c] != NONE) {
        x.partner(c, partner[c]);
      }
    }
    for (int r = 0; r < rows; r++) {
      x.row(rowKind[r], number[r]);
      x.counts(r, counts[r]);
      for (int c = 0; c < columns; c++) {
        x.share(r, c, share[r][c]);
      }
    }
    return x;
  }

  @Override
  public String toString() {
    StringBuilder b = new StringBuilder();
    for (int c = 0; c < columns; c++) {
      b.append("[kind ").append(kind[c]).append(' ').append(least[c]).append("..")
          .append(greatest[c] == NONE ? "none" : "" + greatest[c]).append(" cost ").append(cost[c])
          .append(" partner ").append(partner[c] == NONE ? "none" : "" + partner[c]).append("] ");
    }
    for (int r = 0; r < rows; r++) {
      b.append("{kind ").append(rowKind[r]).append(counts[r] == 1 ? "" : " rests");
      for (int c = 0; c < columns; c++) {
        b.append(' ').append(share[r][c]);
      }
      b.append(" : ").append(number[r]).append("} ");
    }
    return b.toString();
  }
}
