import java.io.IOException;
import java.lang.reflect.Method;
import java.lang.reflect.Modifier;
import java.nio.file.Files;
import java.nio.file.Path;
import java.util.ArrayList;
import java.util.List;
import java.util.regex.Matcher;
import java.util.regex.Pattern;

/** What README.md says: the calls of its example answer as it tells, and no call is left out. */
public final class ReadmeTest {
  private static final Check CHECK = new Check("ReadmeTest");

  public static void main(String[] args) throws Exception {
    String readme = Files.readString(Path.of("README.md"));
    example(readme);
    calls(readme);
    answersBelow0(readme);
    tests(readme);
    CHECK.end();
  }

  /** The lines of the example that begin with "prover." are called; the answer stands behind "//". */
  private static void example(String readme) throws ReflectiveOperationException {
    DilemmaProver prover = new DilemmaProver();
    Matcher line = Pattern.compile("(?m)^prover\\.(\\w+)\\((.*)\\);\\s*// (-?\\d+)").matcher(readme);
    int lines = 0;
    while (line.find()) {
      lines++;
      CHECK.due(line.group(), answer(prover, line.group(1), line.group(2)), Long.parseLong(line.group(3)));
    }
    CHECK.holds("the example has lines", lines > 10);
  }

  private static long answer(DilemmaProver prover, String name, String list) throws ReflectiveOperationException {
    List<Object> values = new ArrayList<>();
    for (String one : list.isBlank() ? new String[0] : list.split(",\\s*")) {
      boolean isLong = one.endsWith("L");
      values.add(isLong ? (Object) Long.decode(one.substring(0, one.length() - 1)) : Integer.decode(one));
    }
    for (Method method : DilemmaProver.class.getMethods()) {
      if (method.getName().equals(name)) {
        return (Integer) method.invoke(prover, values.toArray());
      }
    }
    return Long.MIN_VALUE;
  }

  private static void calls(String readme) {
    CHECK.holds("how an object is made", readme.contains("`new DilemmaProver()`"));
    for (Method method : DilemmaProver.class.getDeclaredMethods()) {
      if (Modifier.isPublic(method.getModifiers())) {
        Matcher row = Pattern.compile("(?m)^\\| `" + method.getName() + "\\(([^)]*)\\)` \\|").matcher(readme);
        CHECK.holds(method.getName() + " has a row", row.find());
        int parameters = row.group(1).isEmpty() ? 0 : row.group(1).split(",").length;
        CHECK.due(method.getName() + "'s parameters", parameters, method.getParameterCount());
      }
    }
  }

  private static void answersBelow0(String readme) {
    for (int answer : new int[] {-1, -2, -3, -4, -5, -6, -7, -11, -12, -13, -14, -15}) {
      CHECK.holds(answer + " has a row", readme.contains("\n| " + answer + " | "));
    }
  }

  private static void tests(String readme) throws IOException {
    CHECK.holds("how to run the tests", readme.contains("\n.ci/run\n"));
    try (var files = Files.newDirectoryStream(Path.of("src/test/java"), "*Test.java")) {
      for (Path file : files) {
        String name = file.getFileName().toString().replace(".java", "");
        CHECK.holds(name + " has a row", readme.contains("\n| `" + name + "` | "));
      }
    }
  }
}
