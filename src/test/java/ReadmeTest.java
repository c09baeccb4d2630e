import java.io.ByteArrayOutputStream;
import java.io.IOException;
import java.io.PrintStream;
import java.net.URLClassLoader;
import java.nio.file.Files;
import java.nio.file.Path;
import java.util.List;
import java.util.regex.MatchResult;
import java.util.regex.Pattern;
import javax.tools.ToolProvider;

/** The examples of README.md compile, and print what they say. */
public final class ReadmeTest {
  private static final Due due = new Due("the readme");

  public static void main(String[] args) throws IOException, ReflectiveOperationException {
    String readme = Files.readString(Path.of("README.md"));
    List<String> examples = found("(?s)```java\n(.*?)```", readme);
    due.holds("there are examples", examples.size() > 2);
    for (int i = 0; i < examples.size(); i++) {
      List<String> want = found("// prints (.*)", examples.get(i));
      List<String> got = printed("Example" + i, examples.get(i));
      due.holds("example " + i + " prints " + got + ", and says " + want, got.equals(want) && !want.isEmpty());
    }
    due.holds("it tells how to run the tests", readme.contains("    .ci/run\n"));
    for (String name : Calls.NAMES) {
      due.holds("it tells of " + name, readme.contains("| `" + name + "("));
    }
    due.close();
  }

  private static List<String> found(String pattern, String text) {
    return Pattern.compile(pattern).matcher(text).results().map((MatchResult match) -> match.group(1)).toList();
  }

  private static List<String> printed(String name, String example) throws IOException, ReflectiveOperationException {
    String classes = System.getProperty("java.class.path");
    Path place = Files.createTempDirectory(Path.of(classes), "readme");
    Path file = place.resolve(name + ".java");
    Files.writeString(file, "public class " + name + " { public static void main(String[] args) {\n" + example + "} }\n");
    int failed = ToolProvider.getSystemJavaCompiler().run(null, null, null, "-cp", classes, "-d", place.toString(), file.toString());
    due.is(name + " compiles", failed, 0);
    PrintStream out = System.out;
    ByteArrayOutputStream caught = new ByteArrayOutputStream();
    try (URLClassLoader loader = new URLClassLoader(new java.net.URL[] {place.toUri().toURL()})) {
      System.setOut(new PrintStream(caught, true));
      loader.loadClass(name).getMethod("main", String[].class).invoke(null, (Object) new String[0]);
    } finally {
      System.setOut(out);
    }
    return caught.toString().lines().toList();
  }
}
