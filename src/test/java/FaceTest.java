import java.io.IOException;
import java.lang.reflect.Constructor;
import java.lang.reflect.Field;
import java.lang.reflect.Method;
import java.lang.reflect.Modifier;
import java.nio.file.Files;
import java.nio.file.Path;
import java.util.Set;
import java.util.TreeSet;
import java.util.regex.Matcher;
import java.util.regex.Pattern;

/** The public face, and no more of it. */
public final class FaceTest {
  private static final Due due = new Due("the face");
  private static final String[] METHODS = {"int column(int, int, int)", "int bound(int, int, int)", "int partner(int, int)",
      "int cost(int, int)", "int row(int, int)", "int share(int, int, int)", "int number(int, int)", "int counts(int, int)",
      "int isOf(int, int)", "int about(int, int)", "int told(int, int)", "int solve(int)", "int worth(int, int, int)",
      "long least(int)", "long value(int, int)", "int quarrel()", "int put(int, int)", "int over(int)", "long take()",
      "int price(int, int)", "int pricesOver(int)", "int check()", "int shows()", "long sum(int, int)", "int count(int)"};

  public static void main(String[] args) throws IOException {
    due.is("BAD", BoundCourt.BAD, -2000000001L);
    due.is("NO", BoundCourt.NO, -2000000002L);
    due.is("FULL", BoundCourt.FULL, -2000000003L);
    due.is("NONE", BoundCourt.NONE, -2000000005L);
    due.is("the class is", BoundCourt.class.getModifiers(), Modifier.PUBLIC | Modifier.FINAL);
    Set<String> want = new TreeSet<>(Set.of(METHODS));
    Set<String> names = new TreeSet<>();
    for (Method method : BoundCourt.class.getDeclaredMethods()) {
      String told = told(method);
      if (!Modifier.isPrivate(method.getModifiers())) {
        due.holds("the document has " + told, want.remove(told));
        due.is(told + " is", method.getModifiers(), Modifier.PUBLIC);
        names.add(method.getName());
      }
    }
    due.holds("the class has " + want, want.isEmpty());
    members(names);
    readInTheDocument();
    due.close();
  }

  /** The list above is that of the document, and nothing is left out of it. */
  private static void readInTheDocument() throws IOException {
    Path document = Path.of("../shared/DOC.md");
    if (!Files.isReadable(document)) {
      return;
    }
    String text = Files.readString(document);
    String face = text.substring(text.indexOf("```java"), text.indexOf("## Terms"));
    Set<String> told = new TreeSet<>();
    Matcher head = Pattern.compile("public (int|long) (\\w+\\([^)]*\\));").matcher(face);
    while (head.find()) {
      told.add(head.group(1) + " " + head.group(2).replaceAll("int \\w+", "int"));
    }
    due.holds("the document's methods are these: " + told, told.equals(new TreeSet<>(Set.of(METHODS))));
    due.is("statements in the document's face", face.chars().filter(ch -> ch == ';').count(), METHODS.length + 2);
    String constants = "int BAD = " + BoundCourt.BAD + ", NO = " + BoundCourt.NO + ", FULL = " + BoundCourt.FULL + ", NONE = "
        + BoundCourt.NONE + ";";
    due.holds("the document's constants are these: " + constants, face.contains("public static final " + constants));
    due.holds("the document's constructor", face.contains("public BoundCourt();"));
    due.holds("the document's class", face.contains("public final class BoundCourt {"));
  }

  private static String told(Method method) {
    StringBuilder told = new StringBuilder(method.getReturnType() + " " + method.getName() + "(");
    for (Class<?> type : method.getParameterTypes()) {
      told.append(told.charAt(told.length() - 1) == '(' ? "" : ", ").append(type);
    }
    return told.append(')').toString();
  }

  private static void members(Set<String> names) {
    Constructor<?>[] constructors = BoundCourt.class.getDeclaredConstructors();
    due.is("constructors", constructors.length, 1);
    due.is("its parameters", constructors[0].getParameterCount(), 0);
    due.is("it is", constructors[0].getModifiers(), Modifier.PUBLIC);
    int constants = Modifier.PUBLIC | Modifier.STATIC | Modifier.FINAL;
    for (Field field : BoundCourt.class.getDeclaredFields()) {
      boolean isTold = Set.of("BAD", "NO", "FULL", "NONE").contains(field.getName());
      due.holds(field.getName() + " is a constant of the face, or private",
          isTold ? field.getModifiers() == constants : Modifier.isPrivate(field.getModifiers()));
    }
    for (Class<?> inside : BoundCourt.class.getDeclaredClasses()) {
      due.holds(inside + " is static", Modifier.isStatic(inside.getModifiers()));
      for (Method method : inside.getDeclaredMethods()) {
        due.holds(inside + "." + method.getName() + " has a name of its own", !names.contains(method.getName()));
      }
    }
    for (Method method : BoundCourt.class.getDeclaredMethods()) {
      boolean isOwn = !Modifier.isPrivate(method.getModifiers()) || !names.contains(method.getName());
      due.holds(method.getName() + " has a name of its own", isOwn);
    }
  }
}
