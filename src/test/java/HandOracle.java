import java.math.BigInteger;

/** What is due of a plan and prices in hand, in numbers that cannot run over. */
final class HandOracle {
  private static final int NONE = BoundCourt.NONE;

  private static BigInteger big(long v) {
    return BigInteger.valueOf(v);
  }

  static long sum(Model m, int r, long[] plan, long below, int part) {
    BigInteger sum = sum(m, r, plan);
    BigInteger common = sum.gcd(big(below));
    return (part == 0 ? sum : big(below)).divide(common).longValueExact();
  }

  private static BigInteger sum(Model m, int r, long[] plan) {
    BigInteger sum = BigInteger.ZERO;
    for (int c = 0; c < m.columns; c++) {
      sum = sum.add(big(m.share[r][c]).multiply(big(plan[c])));
    }
    return sum;
  }

  private static boolean inBounds(Model m, int c, long[] plan, long below) {
    return plan[c] >= m.least[c] * below && (m.greatest[c] == NONE || plan[c] <= m.greatest[c] * below);
  }

  private static boolean keeps(Model m, int r, long[] plan, long below) {
    int side = sum(m, r, plan).compareTo(big((long) m.number[r] * below));
    return m.counts[r] == 0 || side == 0 || (side < 0 && m.rowKind[r] == 0) || (side > 0 && m.rowKind[r] == 1);
  }

  static int check(Model m, long[] plan, long below) {
    for (int c = 0; c < m.columns; c++) {
      boolean isWell = inBounds(m, c, plan, below);
      isWell &= m.kind[c] == 0 || plan[c] % below == 0;
      isWell &= m.kind[c] != 2 || plan[c] != 0 || m.partner[c] == NONE || plan[m.partner[c]] == 0;
      if (!isWell) {
        return 1 + c;
      }
    }
    for (int r = 0; r < m.rows; r++) {
      if (!keeps(m, r, plan, below)) {
        return 100 + r;
      }
    }
    return 0;
  }

  static int shows(Model m, long[] plan, long below, int[] prices, int pricesBelow) {
    boolean[] holds = new boolean[5];
    for (int c = 0; c < m.columns; c++) {
      holds[1] |= !inBounds(m, c, plan, below);
      BigInteger left = big((long) m.cost[c] * pricesBelow);
      for (int r = 0; r < m.rows; r++) {
        left = left.subtract(big((long) m.counts[r] * m.share[r][c] * prices[r]));
      }
      holds[3] |= left.signum() < 0 && (m.greatest[c] == NONE || plan[c] != m.greatest[c] * below);
      holds[3] |= left.signum() > 0 && plan[c] != m.least[c] * below;
    }
    for (int r = 0; r < m.rows; r++) {
      holds[1] |= !keeps(m, r, plan, below);
      if (m.counts[r] == 1) {
        holds[2] |= (prices[r] > 0 && m.rowKind[r] == 0) || (prices[r] < 0 && m.rowKind[r] == 1);
        holds[4] |= prices[r] != 0 && !sum(m, r, plan).equals(big((long) m.number[r] * below));
      }
    }
    for (int what = 1; what < 5; what++) {
      if (holds[what]) {
        return what;
      }
    }
    return 0;
  }
}
