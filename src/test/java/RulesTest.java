import java.io.IOException;
import java.nio.file.Files;
import java.nio.file.Path;
import java.util.List;
import java.util.regex.Matcher;
import java.util.regex.Pattern;

/** Those rules of LANGUAGE.md that can be read off the text. */
public final class RulesTest {
  private static final Due due = new Due("the language");
  private static final List<String> FORBIDDEN = List.of("throw", "throws", "try", "catch", "synchronized", "assert", "import",
      "package", "protected", "double", "float", "Object", "->", "::", "\\w+Exact", "System\\.(?!arraycopy)", "var", "yield",
      "static\\s*\\{", "\\.equals", "hashCode", "toString", "while\\s*\\(true", "for\\s*\\(;;", "native", "volatile");
  private static final Pattern HEAD = Pattern.compile("^( {2}| {4})(?! )[\\w\\[\\] ]*?(\\w+)\\(([^()]*)\\) \\{$");

  public static void main(String[] args) throws IOException {
    String text = Files.readString(Path.of("src/main/java/BoundCourt.java"));
    String code = text.replaceAll("(?s)/\\*.*?\\*/", "").replaceAll("//[^\n]*", "");
    for (String word : FORBIDDEN) {
      boolean isWord = Character.isLetter(word.charAt(0));
      due.holds("no " + word, !Pattern.compile(isWord ? "\\b" + word + "\\b" : word).matcher(code).find());
    }
    due.holds("characters 0 to 255 alone", text.chars().allMatch(ch -> ch < 256));
    due.holds("at most twelve classes", Pattern.compile("\\bclass\\b").matcher(code).results().count() <= 12);
    methods(text.lines().toList());
    due.close();
  }

  private static void methods(List<String> lines) {
    int seen = 0;
    for (int i = 0; i < lines.size(); i++) {
      Matcher head = HEAD.matcher(lines.get(i));
      if (head.matches()) {
        seen++;
        int end = i;
        while (!lines.get(end).equals(head.group(1) + "}")) {
          end++;
        }
        due.holds(head.group(2) + " is short", end - i < 60);
        due.holds(head.group(2) + " takes few parameters", head.group(3).split(",").length <= 7);
      }
    }
    due.holds("methods are found", seen > 60);
  }
}
