import java.io.IOException;
import java.nio.file.Files;
import java.nio.file.Path;
import java.util.Set;
import java.util.TreeSet;
import java.util.function.IntToLongFunction;
import java.util.regex.Matcher;
import java.util.regex.Pattern;

/** Answers that are due, each under the words of the document that ask for it; no words may be left over. */
final class Edges {
  static final int BAD = Due.BAD, NO = Due.NO, FULL = Due.FULL, NONE = Due.NONE;
  static final int LOWEST = Integer.MIN_VALUE, HIGHEST = Integer.MAX_VALUE;
  /** In place of a promise: the part "What it is". */
  static final int THE_WHOLE = 0;
  private static final Path DOCUMENT = Path.of("../shared/DOC.md");
  private static final int PROMISES = 26;
  private static final int[] FAR = {LOWEST, LOWEST + 1, LOWEST + 3, -1000000001, -1, 0, 1, 1000000001, HIGHEST - 3, HIGHEST - 1,
      HIGHEST, BAD, NO, FULL, NONE};
  // Headings and fences ask for nothing, and FaceTest reads the face.
  private static final Pattern FRAME = Pattern.compile("## Promise \\d+: [^`]*`[^`]*`: |## What it is|## Terms|```text|={8} \\d ");

  private final Due due = new Due("the document's sentences");
  private final boolean[] isNamed = new boolean[PROMISES + 1];
  private final boolean isThere;
  private final String document;
  private final boolean[] isQuoted;
  private String sentence = "";

  Edges() throws IOException {
    isThere = Files.isReadable(DOCUMENT);
    if (!isThere) {
      System.out.println("the sentences: there is no " + DOCUMENT + ", so the words are not looked up in it");
    }
    document = isThere ? inOneLine(Files.readString(DOCUMENT)) : "";
    isQuoted = new boolean[document.length()];
    Matcher frame = FRAME.matcher(document);
    while (frame.find()) {
      quote(frame.start(), frame.end());
    }
  }

  private static String inOneLine(String text) {
    return text.replaceAll("\\s+", " ");
  }

  private void quote(int from, int end) {
    for (int i = from; i < end; i++) {
      isQuoted[i] = true;
    }
  }

  /** What follows is due by these words; they must stand under the promise, or in the terms. */
  void says(int promise, String words) {
    sentence = promise + " (" + words + ") ";
    isNamed[promise] = true;
    String own = promise == THE_WHOLE ? "## What it is" : "## Promise " + promise + ":";
    boolean isSaid = isQuotedFrom(own, words) || isQuotedFrom("## Terms", words);
    due.holds("the document says for promise " + promise + ": " + words, isSaid || !isThere);
  }

  private boolean isQuotedFrom(String heading, String words) {
    int start = document.indexOf(heading);
    int next = document.indexOf("## ", start + 2);
    int at = document.indexOf(words, start);
    if (start < 0 || at < 0 || at + words.length() > next) {
      return false;
    }
    quote(at, at + words.length());
    return true;
  }

  void is(String call, long got, long want) {
    due.is(sentence + call, got, want);
  }

  /** A fraction: above the line and below it. */
  void is(String call, long above, long below, long wantAbove, long wantBelow) {
    is(call + ", above", above, wantAbove);
    is(call + ", below", below, wantBelow);
  }

  /** Just the numbers low .. high, and those told besides, are taken; all others are BAD. */
  void takesJust(int low, int high, String call, IntToLongFunction ask, int... besides) {
    Set<Integer> taken = new TreeSet<>();
    for (int v : besides) {
      taken.add(v);
    }
    for (int v : numbersAbout(low, high)) {
      boolean isTaken = (v >= low && v <= high) || taken.contains(v);
      is(call.replaceAll("\\bv\\b", "" + v) + (isTaken ? " is taken" : " is BAD"), ask.applyAsLong(v) == BAD ? 0 : 1, isTaken ? 1 : 0);
    }
  }

  private static Set<Integer> numbersAbout(int low, int high) {
    Set<Integer> numbers = new TreeSet<>();
    for (int v : FAR) {
      numbers.add(v);
    }
    for (int step = 0; step < 4; step++) {
      for (int v : new int[] {low - step, low + step, high - step, high + step}) {
        numbers.add(v);
      }
    }
    for (int v = low; v <= high && high - low <= 300; v++) {
      numbers.add(v);
    }
    return numbers;
  }

  void close() {
    for (int promise = 1; promise <= PROMISES; promise++) {
      due.holds("promise " + promise + " has a test of its own", isNamed[promise]);
    }
    if (isThere) {
      noneLeftOver("## What it is", "## The public face");
      noneLeftOver("## Terms", "## Not promised");
    }
    due.close();
  }

  /** Words that no test quotes have no test. */
  private void noneLeftOver(String heading, String end) {
    StringBuilder left = new StringBuilder();
    int from = document.indexOf(heading);
    int to = document.indexOf(end);
    due.holds("the document has the part " + heading, from >= 0 && to > from);
    for (int i = Math.max(from, 0); i < to; i++) {
      left.append(isQuoted[i] ? '/' : document.charAt(i));
    }
    for (String words : left.toString().split("/+")) {
      boolean isLink = words.matches("[^A-Za-z0-9]*((and|or) )?");
      due.holds("a test quotes: " + words, isLink);
    }
  }
}
