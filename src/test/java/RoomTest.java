import java.lang.management.ManagementFactory;

/** What the dearest runs of calls make stays small, and each call ends. */
public final class RoomTest {
  private static final int NONE = BoundCourt.NONE;
  private static final Due due = new Due("the room");

  private static long made() {
    com.sun.management.ThreadMXBean bean = (com.sun.management.ThreadMXBean) ManagementFactory.getThreadMXBean();
    return bean.getThreadAllocatedBytes(Thread.currentThread().getId());
  }

  public static void main(String[] args) {
    // The first object and reading take room for the classes, too.
    new BoundCourt().solve(0);
    made();
    long before = made();
    BoundCourt x = new BoundCourt();
    due.holds("a new object is small", made() - before < 20000);
    for (int c = 0; c < 5; c++) {
      x.column(c == 4 ? 0 : 1, 0, c == 4 ? 0 : 9);
      x.cost(c, c % 3 - 1);
    }
    // A plain column that can only be 0 hides that an even sum is to be odd.
    x.row(2, 41);
    for (int c = 0; c < 5; c++) {
      x.share(0, c, c == 4 ? 1 : 2);
    }
    for (int r = 1; r < 7; r++) {
      x.row(r % 2, r % 2 == 0 ? 40 : 10);
      for (int c = 0; c < 5; c++) {
        x.share(r, c, (r * 5 + c * 3) % 7 - 2);
      }
    }
    before = made();
    for (int i = 0; i < 50; i++) {
      due.is("solve(0)", x.solve(0), Due.NEVER);
      x.worth(1 + i % 6, i - 25, i % 2);
      x.quarrel();
      x.check();
      x.shows();
      x.take();
    }
    due.holds("51 tables at most, and nothing else", made() - before < 150000);
    before = made();
    for (int i = 0; i < 50; i++) {
      x.solve(0);
      x.quarrel();
    }
    due.holds("nothing more is made", made() - before < 5000);
    anyNumbers();
    due.close();
  }

  /** No numbers and no state make a call throw. */
  private static void anyNumbers() {
    int[] odd = {0, 1, 2, 3, 4, 5, 6, 7, 8, -1, 9, -9, 10, 20, 99, 100, 198, NONE, BoundCourt.BAD, 1000000, 1000000000,
        Integer.MAX_VALUE, Integer.MIN_VALUE, Integer.MAX_VALUE - 2, Integer.MIN_VALUE + 3};
    java.util.Random random = new java.util.Random(3L);
    Calls calls = new Calls(BoundCourt.class);
    int asked = 0;
    for (int run = 0; run < 1500; run++) {
      BoundCourt x = new BoundCourt();
      for (int i = 0; i < 512; i++) {
        int a = odd[random.nextInt(random.nextBoolean() ? 8 : odd.length)];
        int b = odd[random.nextInt(random.nextBoolean() ? 8 : odd.length)];
        int c = odd[random.nextInt(random.nextBoolean() ? 8 : odd.length)];
        calls.ask(x, random.nextInt(Calls.NAMES.length), a, b, c);
        asked++;
      }
    }
    due.is("calls that ended", asked, 1500 * 512);
  }
}
