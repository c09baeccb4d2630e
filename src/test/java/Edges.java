import java.io.IOException;
import java.nio.file.Files;
import java.nio.file.Path;
import java.util.Set;
import java.util.TreeSet;
import java.util.function.IntToLongFunction;

/** Answers that are due at the edges, each under the words of the document that name the edge. */
final class Edges {
  static final int BAD = Due.BAD, NO = Due.NO, FULL = Due.FULL, NONE = Due.NONE;
  static final int LOWEST = Integer.MIN_VALUE, HIGHEST = Integer.MAX_VALUE;
  private static final Path DOCUMENT = Path.of("../shared/DOC.md");
  private static final int PROMISES = 26;
  private static final int[] FAR = {LOWEST, LOWEST + 1, LOWEST + 3, -1000000001, -1, 0, 1, 1000000001, HIGHEST - 3, HIGHEST - 1,
      HIGHEST, BAD, NO, FULL, NONE};

  private final Due due = new Due("the edges");
  private final boolean[] isNamed = new boolean[PROMISES + 1];
  private final String document;
  private String sentence = "";

  Edges() throws IOException {
    boolean isThere = Files.isReadable(DOCUMENT);
    document = isThere ? inOneLine(Files.readString(DOCUMENT)) : null;
    if (!isThere) {
      System.out.println("the edges: there is no " + DOCUMENT + ", so the words are not looked up in it");
    }
  }

  private static String inOneLine(String text) {
    return text.replaceAll("\\s+", " ");
  }

  /** What follows is due by these words; they must stand in the document. */
  void says(int promise, String words) {
    sentence = promise + " (" + words + ") ";
    isNamed[promise] = true;
    due.holds("the document says: " + words, document == null || document.contains(inOneLine(words)));
  }

  void is(String call, long got, long want) {
    due.is(sentence + call, got, want);
  }

  /** A fraction: above the line and below it. */
  void is(String call, long above, long below, long wantAbove, long wantBelow) {
    is(call + ", above", above, wantAbove);
    is(call + ", below", below, wantBelow);
  }

  /** Just the numbers low .. high, and those told besides, are taken; all others are BAD. */
  void takesJust(int low, int high, String call, IntToLongFunction ask, int... besides) {
    Set<Integer> taken = new TreeSet<>();
    for (int v : besides) {
      taken.add(v);
    }
    for (int v : numbersAbout(low, high)) {
      boolean isTaken = (v >= low && v <= high) || taken.contains(v);
      is(call.replaceAll("\\bv\\b", "" + v) + (isTaken ? " is taken" : " is BAD"), ask.applyAsLong(v) == BAD ? 0 : 1, isTaken ? 1 : 0);
    }
  }

  private static Set<Integer> numbersAbout(int low, int high) {
    Set<Integer> numbers = new TreeSet<>();
    for (int v : FAR) {
      numbers.add(v);
    }
    for (int step = 0; step < 4; step++) {
      for (int v : new int[] {low - step, low + step, high - step, high + step}) {
        numbers.add(v);
      }
    }
    for (int v = low; v <= high && high - low <= 300; v++) {
      numbers.add(v);
    }
    return numbers;
  }

  void close() {
    for (int promise = 1; promise <= PROMISES; promise++) {
      due.holds("promise " + promise + " has an edge of its own", isNamed[promise]);
    }
    due.close();
  }
}
