import java.util.Random;

/** Runs of 512 random calls, edges and refusals among them, each answered as the court's twin answers it. */
public final class RunsTest {
  private static final int NONE = Due.NONE;
  private static final int[] FAR = {Integer.MIN_VALUE, Integer.MAX_VALUE, NONE, Due.BAD, Due.NO, Due.FULL, -1, 5, 7, 8};
  private static final int[] EDGES = {9, 20, 99, 1000000, 1000000000};
  private static final int MOST_CALLS = 512;
  private static final int MOST_CHOICES = 100;
  private static final Due due = new Due("runs of calls");
  private static final Calls calls = new Calls(BoundCourt.class);
  private static final Calls twinCalls = new Calls(Twin.class);
  private static final long[] answered = new long[Calls.NAMES.length];
  private static final int[] solved = new int[3];
  private static int quarrels = 0;

  private final Random random;
  private final BoundCourt court = new BoundCourt();
  private final Twin twin = new Twin();
  // Else all runs would soon be full, and most full ones are never solved.
  private final int usualColumns;
  private final int usualRows;

  private RunsTest(Random random) {
    this.random = random;
    usualColumns = random.nextInt(6);
    usualRows = random.nextInt(8);
  }

  public static void main(String[] args) {
    int runs = args.length > 0 ? Integer.parseInt(args[0]) : 600;
    long seed = args.length > 1 ? Long.parseLong(args[1]) : 20261117L;
    for (int run = 0; run < runs && !due.isWrong(); run++) {
      new RunsTest(new Random(seed + run)).run(run);
    }
    for (int which = 0; which < Calls.NAMES.length; which++) {
      due.holds(Calls.NAMES[which] + " is answered often enough", answered[which] > runs / 4);
    }
    System.out.println(solved[0] + " best, " + solved[1] + " never, " + solved[2] + " endless; " + quarrels + " quarrels");
    due.holds("all outcomes are met often enough", Math.min(solved[0], Math.min(solved[1], solved[2])) > runs / 5);
    due.holds("quarrels are met often enough", quarrels > runs);
    due.close();
  }

  private void run(int run) {
    for (int i = 0; i < MOST_CALLS && !due.isWrong(); i++) {
      int which = drawCall();
      int[] args = {drawFirst(which), drawSecond(which), drawThird(which)};
      if (!isTooDear(which) && !isUnusual(which)) {
        make(run, i, which, args);
      }
    }
  }

  private int drawCall() {
    // Questions are asked more often than the program is changed, so that it does not only wear out.
    String[] often = {"solve", "worth", "least", "value", "quarrel", "take", "check", "shows", "sum", "share", "number", "put"};
    return random.nextBoolean() ? Calls.of(often[random.nextInt(often.length)]) : random.nextInt(Calls.NAMES.length);
  }

  private boolean isTooDear(int which) {
    String name = Calls.NAMES[which];
    boolean isSearch = name.equals("solve") || name.equals("worth") || name.equals("quarrel");
    return isSearch && (twin.choices() > MOST_CHOICES || (twin.columns() > 3 && random.nextInt(8) > 0));
  }

  private boolean isUnusual(int which) {
    String name = Calls.NAMES[which];
    boolean isMore = (name.equals("column") && twin.columns() >= usualColumns) || (name.equals("row") && twin.rows() >= usualRows);
    return isMore && random.nextInt(10) > 0;
  }

  private void make(int run, int i, int which, int[] args) {
    String before = twin.toString();
    long want = twinCalls.ask(twin, which, args);
    long got = calls.ask(court, which, args);
    due.is("run " + run + ", call " + i + ", " + Calls.told(which, args) + " of " + before, got, want);
    boolean isRefused = want <= Due.BAD && want >= Due.FULL;
    answered[which] += isRefused ? 0 : 1;
    boolean isSolving = Calls.NAMES[which].equals("solve") || Calls.NAMES[which].equals("worth");
    if (isSolving && !isRefused) {
      solved[(int) want]++;
    }
    quarrels += Calls.NAMES[which].equals("quarrel") && want != 0 ? 1 : 0;
  }

  private int between(int low, int high) {
    return Model.between(random, low, high);
  }

  /** Now and then a number that is refused, or the last one that is taken. */
  private int orFar(int v) {
    int way = random.nextInt(40);
    if (way == 0) {
      return FAR[random.nextInt(FAR.length)];
    }
    if (way == 1) {
      int edge = EDGES[random.nextInt(EDGES.length)];
      return (random.nextBoolean() ? 1 : -1) * (edge + random.nextInt(2));
    }
    return v;
  }

  private int drawFirst(int which) {
    switch (Calls.NAMES[which]) {
      case "column":
        return orFar(between(0, 2));
      case "row":
        return orFar(random.nextInt(8) == 0 ? 2 : random.nextInt(3) == 0 ? 1 : 0);
      case "solve": case "least":
        return orFar(between(0, 1));
      case "over": case "pricesOver":
        return orFar(between(1, 4));
      case "count":
        return orFar(between(0, 5));
      case "share": case "number": case "counts": case "told": case "worth": case "price": case "sum":
        return orFar(between(0, 6));
      default:
        return orFar(between(0, 4));
    }
  }

  private int drawSecond(int which) {
    switch (Calls.NAMES[which]) {
      case "column": case "bound":
        return orFar(random.nextBoolean() ? 0 : between(-6, 6));
      case "partner":
        return orFar(random.nextInt(5) == 0 ? NONE : between(0, 4));
      case "cost":
        return orFar(between(-4, 4));
      case "row": case "number":
        return orFar(between(-4, 30));
      case "counts":
        return orFar(between(0, 1));
      case "isOf":
        return orFar(between(0, 2));
      case "about":
        return orFar(between(0, 3));
      case "told":
        return orFar(between(0, 7));
      case "worth":
        return orFar(between(-12, 12));
      case "value": case "sum":
        return orFar(between(0, 1));
      case "put":
        return orFar(between(-6, 12));
      case "price":
        return orFar(random.nextInt(3) > 0 ? 0 : between(-3, 3));
      default:
        return orFar(between(0, 4));
    }
  }

  private int drawThird(int which) {
    switch (Calls.NAMES[which]) {
      case "column": case "bound":
        return orFar(random.nextInt(3) == 0 ? NONE : between(0, 9));
      case "share":
        return orFar(between(-4, 6));
      default:
        return orFar(between(0, 1));
    }
  }
}
