import java.lang.reflect.Method;

/** The calls of the face by number, so that they can be drawn and made alike on a court and its twin. */
final class Calls {
  static final String[] NAMES = {"column", "bound", "partner", "cost", "row", "share", "number", "counts", "isOf", "about", "told",
      "solve", "worth", "least", "value", "quarrel", "put", "over", "take", "price", "pricesOver", "check", "shows", "sum", "count"};
  static final int[] ARITIES = {3, 3, 2, 2, 2, 3, 2, 2, 2, 2, 2, 1, 3, 1, 2, 0, 2, 1, 0, 2, 1, 0, 0, 2, 1};

  private final Method[] methods = new Method[NAMES.length];

  Calls(Class<?> type) {
    for (Method method : type.getDeclaredMethods()) {
      int which = java.util.Arrays.asList(NAMES).indexOf(method.getName());
      if (which >= 0 && method.getParameterCount() == ARITIES[which]) {
        methods[which] = method;
      }
    }
  }

  /** Makes the call with as many of the arguments as it takes. */
  long ask(Object court, int which, int... args) {
    Object[] taken = new Object[ARITIES[which]];
    for (int i = 0; i < taken.length; i++) {
      taken[i] = args[i];
    }
    try {
      return ((Number) methods[which].invoke(court, taken)).longValue();
    } catch (ReflectiveOperationException failed) {
      throw new IllegalStateException(told(which, args) + " did not answer", failed);
    }
  }

  static int of(String name) {
    return java.util.Arrays.asList(NAMES).indexOf(name);
  }

  static String told(int which, int... args) {
    StringBuilder b = new StringBuilder(NAMES[which]).append('(');
    for (int i = 0; i < ARITIES[which]; i++) {
      b.append(i > 0 ? ", " : "").append(args[i]);
    }
    return b.append(')').toString();
  }
}
