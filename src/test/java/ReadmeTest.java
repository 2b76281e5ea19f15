import java.io.IOException;
import java.lang.reflect.Method;
import java.lang.reflect.Modifier;
import java.nio.file.Files;
import java.nio.file.Path;
import java.util.Map;

/** README.md tells each call of the public face, and its example does what it says. */
final class ReadmeTest {
  private static final Check check = new Check("ReadmeTest");
  private static final Map<String, String> PARAMETERS = Map.of(
      "hole", "int level", "word", "long bytes, int n", "notation", "int level",
      "put", "long bytes, int n", "fault", "int what", "node", "int i, int what",
      "at", "int i", "isKey", "long bytes, int n", "about", "int what");

  public static void main(String[] args) throws IOException {
    String readme = Files.readString(Path.of("README.md"));
    calls(readme);
    example(readme);
    howToTest(readme);
    check.end();
  }

  private static void calls(String readme) {
    tells(readme, "| `new NotationParse()` |");
    tells(readme, "`NotationParse.NONE` is " + NotationParse.NONE);
    for (Method method : NotationParse.class.getDeclaredMethods()) {
      if (Modifier.isPublic(method.getModifiers())) {
        String name = method.getName();
        String row = rowOf(readme, name + "(" + PARAMETERS.getOrDefault(name, "") + ")");
        check.due("a row of README.md tells " + name, !row.isEmpty(), true);
        for (Class<?> thrown : method.getExceptionTypes()) {
          tells(row, "`" + thrown.getSimpleName() + "`: ");
        }
      }
    }
  }

  private static String rowOf(String readme, String call) {
    for (String line : readme.split("\n")) {
      if (line.startsWith("| `" + call + "` |")) {
        return line;
      }
    }
    return "";
  }

  private static void example(String readme) throws IOException {
    String source = Files.readString(Path.of("src/test/java/Example.java"));
    String code = between(source, "    // begin\n", "    // end\n").replaceAll("(?m)^    ", "");
    check.due("the example's code", between(readme, "```java\n", "```\n"), code);
    StringBuilder out = new StringBuilder();
    Example.run(out);
    check.due("the example's output", between(readme, "then:\n\n```\n", "```\n"), out);
  }

  private static void howToTest(String readme) {
    tells(readme, "\n.ci/run\n");
    tells(readme, "../shared/tests");
  }

  private static String between(String text, String begin, String end) {
    int from = text.indexOf(begin) + begin.length();
    int to = text.indexOf(end, from);
    return text.contains(begin) && to >= 0 ? text.substring(from, to) : "nothing";
  }

  private static void tells(String text, String what) {
    check.due("README.md tells " + what.trim(), text.contains(what), true);
  }
}
