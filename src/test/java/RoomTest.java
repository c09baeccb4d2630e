import java.lang.management.ManagementFactory;

/** What the dearest runs of calls make stays small, and each call ends. */
public final class RoomTest {
  private static final int NONE = BoundCourt.NONE;
  private static final Due due = new Due("the room");

  private static long made() {
    com.sun.management.ThreadMXBean bean = (com.sun.management.ThreadMXBean) ManagementFactory.getThreadMXBean();
    return bean.getThreadAllocatedBytes(Thread.currentThread().getId());
  }

  public static void main(String[] args) {
    // The first object and reading take room for the classes, too.
    new BoundCourt().solve(0);
    made();
    long before = made();
    BoundCourt x = new BoundCourt();
    due.holds("a new object is small", made() - before < 20000);
    for (int c = 0; c < 5; c++) {
      x.column(c == 4 ? 0 : 1, 0, c == 4 ? 0 : 9);
      x.cost(c, c % 3 - 1);
    }
    // A plain column that can only be 0 hides that an even sum is to be odd.
    x.row(2, 41);
    for (int c = 0; c < 5; c++) {
      x.share(0, c, c == 4 ? 1 : 2);
    }
    for (int r = 1; r < 7; r++) {
      x.row(r % 2, r % 2 == 0 ? 40 : 10);
      for (int c = 0; c < 5; c++) {
        x.share(r, c, (r * 5 + c * 3) % 7 - 2);
      }
    }
    before = made();
    for (int i = 0; i < 50; i++) {
      due.is("solve(0)", x.solve(0), Due.NEVER);
      x.worth(1 + i % 6, i - 25, i % 2);
      x.quarrel();
      x.check();
      x.shows();
      x.take();
    }
    due.holds("51 tables at most, and nothing else", made() - before < 150000);
    before = made();
    for (int i = 0; i < 50; i++) {
      x.solve(0);
      x.quarrel();
    }
    due.holds("nothing more is made", made() - before < 5000);
    anyNumbers();
    due.close();
  }

  /** No numbers and no state make a call throw. */
  private static void anyNumbers() {
    int[] odd = {0, 1, 2, 3, 4, 5, 6, 7, 8, -1, 9, -9, 10, 20, 99, 100, 198, NONE, BoundCourt.BAD, 1000000, 1000000000,
        Integer.MAX_VALUE, Integer.MIN_VALUE, Integer.MAX_VALUE - 2, Integer.MIN_VALUE + 3};
    java.util.Random random = new java.util.Random(3L);
    int asked = 0;
    for (int run = 0; run < 1500; run++) {
      BoundCourt x = new BoundCourt();
      for (int i = 0; i < 512; i++) {
        int a = odd[random.nextInt(random.nextBoolean() ? 8 : odd.length)];
        int b = odd[random.nextInt(random.nextBoolean() ? 8 : odd.length)];
        int c = odd[random.nextInt(random.nextBoolean() ? 8 : odd.length)];
        call(x, random.nextInt(25), a, b, c);
        asked++;
      }
    }
    due.is("calls that ended", asked, 1500 * 512);
  }

  private static long call(BoundCourt x, int which, int a, int b, int c) {
    switch (which) {
      case 0: return x.column(a, b, c);
      case 1: return x.bound(a, b, c);
      case 2: return x.partner(a, b);
      case 3: return x.cost(a, b);
      case 4: return x.row(a, b);
      case 5: return x.share(a, b, c);
      case 6: return x.number(a, b);
      case 7: return x.counts(a, b);
      case 8: return x.isOf(a, b);
      case 9: return x.about(a, b);
      case 10: return x.told(a, b);
      case 11: return x.solve(a);
      case 12: return x.worth(a, b, c);
      case 13: return x.least(a);
      case 14: return x.value(a, b);
      case 15: return x.quarrel();
      case 16: return x.put(a, b);
      case 17: return x.over(a);
      case 18: return x.take();
      case 19: return x.price(a, b);
      case 20: return x.pricesOver(a);
      case 21: return x.check();
      case 22: return x.shows();
      case 23: return x.sum(a, b);
      default: return x.count(a);
    }
  }
}
