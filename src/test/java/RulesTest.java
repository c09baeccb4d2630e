import java.io.IOException;
import java.lang.reflect.Field;
import java.lang.reflect.Modifier;
import java.nio.file.Files;
import java.nio.file.Path;
import java.util.List;
import java.util.Set;
import java.util.regex.Matcher;
import java.util.regex.Pattern;

/** Those rules of LANGUAGE.md that can be read off the text. */
public final class RulesTest {
  private static final Due due = new Due("the language");
  private static final List<String> FORBIDDEN = List.of("throw", "throws", "try", "catch", "synchronized", "assert", "import",
      "package", "protected", "double", "float", "Object", "->", "::", "\\w+Exact", "System\\.(?!arraycopy)", "var", "yield",
      "static\\s*\\{", "\\.equals", "hashCode", "toString", "while\\s*\\(true", "for\\s*\\(;;", "native", "volatile");
  private static final Set<String> LIBRARY = Set.of("System.arraycopy", "Math.abs", "Math.floorDiv", "Integer.bitCount", "Long.compare");
  private static final Pattern HEAD = Pattern.compile("^( {2}| {4})(?! )[\\w\\[\\] ]*?(\\w+)\\(([^()]*)\\) \\{$");

  public static void main(String[] args) throws IOException {
    String text = Files.readString(Path.of("src/main/java/BoundCourt.java"));
    String code = text.replaceAll("(?s)/\\*.*?\\*/", "").replaceAll("//[^\n]*", "");
    for (String word : FORBIDDEN) {
      boolean isWord = Character.isLetter(word.charAt(0));
      due.holds("no " + word, !Pattern.compile(isWord ? "\\b" + word + "\\b" : word).matcher(code).find());
    }
    due.holds("characters 0 to 255 alone", text.chars().allMatch(ch -> ch < 256));
    due.holds("at most twelve classes", Pattern.compile("\\bclass\\b").matcher(code).results().count() <= 12);
    library(code);
    methods(text.lines().toList());
    fields(BoundCourt.class);
    for (Class<?> inside : BoundCourt.class.getDeclaredClasses()) {
      fields(inside);
    }
    due.close();
  }

  private static void library(String code) {
    Matcher call = Pattern.compile("\\b(System|Math|Integer|Long|String|Arrays|List|Character|Boolean)\\.(\\w+)").matcher(code);
    while (call.find()) {
      due.holds("rule 4 lets " + call.group(), LIBRARY.contains(call.group()));
    }
  }

  private static void fields(Class<?> type) {
    int own = 0;
    for (Field field : type.getDeclaredFields()) {
      boolean isStatic = Modifier.isStatic(field.getModifiers());
      own += isStatic ? 0 : 1;
      boolean isConstant = Modifier.isFinal(field.getModifiers()) && field.getType().isPrimitive();
      due.holds(type + "." + field.getName() + ", if static, is a constant", !isStatic || isConstant);
    }
    due.holds(type + " has few fields", own <= 20);
  }

  private static void methods(List<String> lines) {
    int seen = 0;
    for (int i = 0; i < lines.size(); i++) {
      Matcher head = HEAD.matcher(lines.get(i));
      if (head.matches()) {
        seen++;
        int end = i;
        while (!lines.get(end).equals(head.group(1) + "}")) {
          end++;
        }
        due.holds(head.group(2) + " is short", end - i < 60);
        due.holds(head.group(2) + " takes few parameters", head.group(3).split(",").length <= 7);
      }
    }
    due.holds("methods are found", seen > 60);
  }
}
