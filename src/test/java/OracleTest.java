import java.util.Random;

/** Promises 13 to 17, 20, 23: random programs, answered as trying everything answers them. */
public final class OracleTest {
  private static final Due due = new Due("against trying everything");
  private static final int[] seen = new int[6];
  private static int quarrels = 0;

  private static void compare(String what, Model model, BoundCourt x, boolean strictly, int outcome) {
    Oracle.Answer want = Oracle.solve(model, strictly);
    seen[want.outcome + (strictly ? 0 : 3)]++;
    due.is(what + " of " + model, outcome, want.outcome);
    if (want.outcome != 0) {
      due.is("least(0) after " + what, x.least(0), Due.NO);
      due.is("least(1) after " + what, x.least(1), Due.NO);
      due.is("take() after " + what, x.take(), Due.NO);
      return;
    }
    if (outcome != 0) {
      return;
    }
    fraction("least after " + what + " of " + model, want.plan.cost, want.plan.below, x.least(0), x.least(1));
    long common = want.plan.below;
    for (int c = 0; c < model.columns; c++) {
      fraction("value " + c + " after " + what + " of " + model, want.plan.values[c], want.plan.below, x.value(c, 0), x.value(c, 1));
      common = divisor(common, want.plan.values[c]);
    }
    due.is("take() after " + what + " of " + model, x.take(), want.plan.below / common);
  }

  private static void fraction(String what, long above, long below, long gotAbove, long gotBelow) {
    long common = divisor(above, below);
    due.is(what + ", above", gotAbove, above / common);
    due.is(what + ", below", gotBelow, below / common);
  }

  private static long divisor(long a, long b) {
    return b == 0 ? Math.abs(a) : divisor(b, a % b);
  }

  private static void tryOut(Random random, Model.Draw draw, boolean withQuarrel) {
    Model model = Model.random(random, draw);
    BoundCourt x = model.told();
    compare("solve(0)", model, x, true, x.solve(0));
    compare("solve(1)", model, x, false, x.solve(1));
    if (model.rows > 0) {
      int r = random.nextInt(model.rows);
      int d = Model.between(random, -99, 99) / (1 + random.nextInt(40));
      model.number[r] += d;
      compare("worth(" + r + ", " + d + ", 0)", model, x, true, x.worth(r, d, 0));
      compare("worth(" + r + ", " + d + ", 1)", model, x, false, x.worth(r, d, 1));
      model.number[r] -= d;
    }
    if (withQuarrel) {
      int want = Oracle.quarrel(model);
      quarrels += want == 0 ? 0 : 1;
      due.is("quarrel() of " + model, x.quarrel(), want);
    }
  }

  public static void main(String[] args) {
    int times = args.length > 0 ? Integer.parseInt(args[0]) : 10;
    Random random = new Random(args.length > 1 ? Long.parseLong(args[1]) : 20261116L);
    Model.Draw small = new Model.Draw();
    small.mostColumns = 3;
    small.mostRows = 4;
    Model.Draw ties = new Model.Draw();
    ties.mostColumns = 4;
    ties.mostRows = 4;
    ties.factor = 2;
    ties.wholeSpan = 4;
    Model.Draw switches = new Model.Draw();
    switches.kinds = new int[] {0, 2, 2};
    switches.factor = 5;
    Model.Draw plain = new Model.Draw();
    plain.kinds = new int[] {0};
    Model.Draw apart = new Model.Draw();
    apart.mostColumns = 4;
    apart.nearby = false;
    apart.wholeSpan = 3;
    Model.Draw many = new Model.Draw();
    many.wholeSpan = 2;
    Model.Draw far = new Model.Draw();
    far.kinds = new int[] {0, 0, 0, 1};
    far.extreme = true;
    far.nearby = false;
    far.justIn = 3;
    for (int i = 0; i < 600 * times; i++) {
      tryOut(random, small, true);
      tryOut(random, ties, true);
    }
    for (int i = 0; i < 60 * times; i++) {
      tryOut(random, switches, i % 6 == 0);
      tryOut(random, plain, i % 6 == 0);
      tryOut(random, apart, i % 6 == 0);
      tryOut(random, many, i % 6 == 0);
      tryOut(random, far, i % 6 == 0);
    }
    System.out.println("strictly: " + seen[0] + " best, " + seen[1] + " never, " + seen[2] + " endless; loosely: "
        + seen[3] + " best, " + seen[4] + " never, " + seen[5] + " endless; " + quarrels + " quarrels");
    for (int outcome = 0; outcome < 6; outcome++) {
      due.holds("outcome " + outcome + " is met often enough", seen[outcome] > 50);
    }
    due.close();
  }
}
