import java.io.IOException;
import java.lang.reflect.Constructor;
import java.lang.reflect.Field;
import java.lang.reflect.Method;
import java.lang.reflect.Modifier;
import java.nio.file.Files;
import java.nio.file.Path;
import java.util.Map;
import java.util.Set;
import java.util.TreeMap;
import java.util.TreeSet;
import java.util.regex.Matcher;
import java.util.regex.Pattern;

/** Rules of LANGUAGE.md that can be looked at from outside: the face, and words that are not to be. */
public final class LanguageTest {
  private static final Check CHECK = new Check("LanguageTest");
  private static final Set<String> FACE = Set.of(
      "feed(long,int)", "read()", "place()", "count(int)", "variable(int,int)", "gate(int,int,int)",
      "sign(int,int)", "clear()", "forget()", "join(int,int)", "stands(int)", "saturate(int,int)",
      "prove(int,int,int)", "told(int)", "value(int,int)", "model(int)", "alike(int,int)");

  public static void main(String[] args) throws IOException {
    face();
    for (Class<?> inner : DilemmaProver.class.getDeclaredClasses()) {
      innerClass(inner);
    }
    String code = code(Files.readString(Path.of("src/main/java/DilemmaProver.java")));
    words(code);
    library(code);
    lengths(code);
    callDepth(callsOf(code));
    CHECK.holds("at most twelve classes", DilemmaProver.class.getDeclaredClasses().length + 1 <= 12);
    CHECK.end();
  }

  private static void face() {
    Class<?> type = DilemmaProver.class;
    CHECK.holds("public final", Modifier.isPublic(type.getModifiers()) && Modifier.isFinal(type.getModifiers()));
    Constructor<?>[] constructors = type.getDeclaredConstructors();
    CHECK.due("constructors", constructors.length, 1);
    CHECK.holds("a public one without parameters",
        Modifier.isPublic(constructors[0].getModifiers()) && constructors[0].getParameterCount() == 0);
    Set<String> seen = new TreeSet<>();
    for (Method method : type.getDeclaredMethods()) {
      if (Modifier.isPrivate(method.getModifiers())) {
        CHECK.holds(method + " has a name of its own", !isFaceName(method.getName()));
        continue;
      }
      CHECK.holds(method + " is public", Modifier.isPublic(method.getModifiers()));
      CHECK.holds(method + " answers an int", method.getReturnType() == int.class);
      seen.add(signature(method));
    }
    CHECK.holds("the face is " + FACE + ", seen was " + seen, seen.equals(FACE));
    for (Field field : type.getDeclaredFields()) {
      CHECK.holds(field + " is private", Modifier.isPrivate(field.getModifiers()));
      isFinalIfStatic(field);
    }
  }

  private static boolean isFaceName(String name) {
    return FACE.stream().anyMatch(one -> one.startsWith(name + "("));
  }

  private static String signature(Method method) {
    StringBuilder all = new StringBuilder(method.getName()).append("(");
    for (Class<?> parameter : method.getParameterTypes()) {
      all.append(all.charAt(all.length() - 1) == '(' ? "" : ",").append(parameter.getName());
    }
    return all.append(")").toString();
  }

  private static void innerClass(Class<?> inner) {
    CHECK.holds(inner + " is private and static",
        Modifier.isPrivate(inner.getModifiers()) && Modifier.isStatic(inner.getModifiers()));
    for (Field field : inner.getDeclaredFields()) {
      isFinalIfStatic(field);
    }
    for (Method method : inner.getDeclaredMethods()) {
      CHECK.holds(method + " has a name of its own", !isFaceName(method.getName()));
      CHECK.holds(method + " has at most seven parameters", method.getParameterCount() <= 7);
    }
    int rows = 0;
    for (Field field : inner.getDeclaredFields()) {
      rows += Modifier.isStatic(field.getModifiers()) ? 0 : 1;
    }
    CHECK.holds(inner + " has at most twenty fields", rows <= 20);
  }

  private static void isFinalIfStatic(Field field) {
    int modifiers = field.getModifiers();
    CHECK.holds(field + " is final if static", !Modifier.isStatic(modifiers) || Modifier.isFinal(modifiers));
  }

  /** The source without what comments, texts and signs hold; its lines stay. */
  private static String code(String source) {
    Matcher comment = Pattern.compile("(?s)/\\*.*?\\*/").matcher(source);
    return comment.replaceAll(found -> found.group().replaceAll("[^\n]", ""))
        .replaceAll("//[^\n]*", " ")
        .replaceAll("\"(\\\\.|[^\"\\\\])*\"", "\"\"")
        .replaceAll("'(\\\\.|[^'\\\\])'", "' '");
  }

  private static void words(String code) {
    Matcher word = Pattern.compile(
        "\\b(throw|throws|try|catch|finally|synchronized|assert|package|import|native|volatile|"
            + "transient|Object|Thread|Random|equals|hashCode|toString|var)\\b|->|::|Exact\\b").matcher(code);
    CHECK.holds("no word that is not to be" + (word.find() ? ": " + word.group() : ""), !word.reset().find());
    CHECK.holds("no while without a counter", !Pattern.compile("\\bwhile\\b").matcher(code).find());
    CHECK.holds("no static block", !Pattern.compile("\\bstatic\\s*\\{").matcher(code).find());
  }

  private static void library(String code) {
    Matcher call = Pattern.compile("\\b(Math|Long|Integer|System|Arrays)\\.(\\w+)").matcher(code);
    Set<String> listed = Set.of("Math.min", "Math.max", "Long.numberOfTrailingZeros", "System.arraycopy");
    while (call.find()) {
      CHECK.holds(call.group() + " is listed", listed.contains(call.group()));
    }
    Matcher made = Pattern.compile("\\bnew (\\w+)").matcher(code);
    Set<String> own = new TreeSet<>(Set.of("byte", "int", "long"));
    for (Class<?> inner : DilemmaProver.class.getDeclaredClasses()) {
      own.add(inner.getSimpleName());
    }
    while (made.find()) {
      CHECK.holds(made.group() + " is a row or one of our own", own.contains(made.group(1)));
    }
  }

  private static void lengths(String code) {
    String[] lines = code.split("\n");
    for (int i = 0; i < lines.length; i++) {
      if (beginsMethod(lines[i])) {
        int length = endOfMethod(lines, i) - i + 1;
        CHECK.holds(lines[i].trim() + " is short (" + length + " lines)", length <= 60);
      }
    }
  }

  /** A method begins with a line that ends in "{" and holds "(" at the depth of a class's members. */
  private static boolean beginsMethod(String line) {
    return line.matches("( {2}| {4})\\w[^=;]*\\(.*\\) \\{") && !line.matches(" *(if|for|switch).*");
  }

  private static int endOfMethod(String[] lines, int first) {
    String end = lines[first].replaceAll("\\S.*", "") + "}";
    int last = first;
    while (last < lines.length - 1 && !lines[last].equals(end)) {
      last++;
    }
    return last;
  }

  /** Which methods call which, by name; methods of one name are taken for one. */
  private static Map<String, Set<String>> callsOf(String code) {
    Pattern called = Pattern.compile("\\b(\\w+)\\(");
    Map<String, Set<String>> calls = new TreeMap<>();
    String[] lines = code.split("\n");
    for (int i = 0; i < lines.length; i++) {
      if (beginsMethod(lines[i])) {
        Matcher name = called.matcher(lines[i]);
        CHECK.holds(lines[i] + " has a name", name.find());
        Set<String> all = calls.computeIfAbsent(name.group(1), one -> new TreeSet<>());
        for (int k = i + 1; k < endOfMethod(lines, i); k++) {
          called.matcher(lines[k]).results().forEach(found -> all.add(found.group(1)));
        }
      }
    }
    calls.values().forEach(all -> all.retainAll(calls.keySet()));
    return calls;
  }

  private static void callDepth(Map<String, Set<String>> calls) {
    Map<String, Set<String>> reached = reachedBy(calls);
    for (String name : calls.keySet()) {
      int deep = depthFrom(name, calls, reached);
      CHECK.holds(name + " goes at most eight deep (" + deep + ")", deep <= 8);
      int level = levelOf(name, reached).size();
      // A level is opened by one of at most 40 signs, or is the first; a few calls go beside them.
      CHECK.holds(name + " has under 300 calls open (" + level + " a level)", 41 * level + 8 < 300);
    }
    CHECK.holds("calls are seen", depthFrom("prove", calls, reached) > 4);
    CHECK.holds("levels are seen", levelOf("operand", reached).contains("equality"));
  }

  private static Map<String, Set<String>> reachedBy(Map<String, Set<String>> calls) {
    Map<String, Set<String>> reached = new TreeMap<>();
    calls.forEach((name, all) -> reached.put(name, new TreeSet<>(all)));
    for (String through : calls.keySet()) {
      for (Set<String> all : reached.values()) {
        if (all.contains(through)) {
          all.addAll(reached.get(through));
        }
      }
    }
    return reached;
  }

  /** Methods that call one another are one level of a recursion. */
  private static Set<String> levelOf(String name, Map<String, Set<String>> reached) {
    Set<String> level = new TreeSet<>(Set.of(name));
    reached.get(name).stream().filter(one -> reached.get(one).contains(name)).forEach(level::add);
    return level;
  }

  /** A level counts as one call: what goes deep there is recursion. */
  private static int depthFrom(String name, Map<String, Set<String>> calls, Map<String, Set<String>> reached) {
    Set<String> level = levelOf(name, reached);
    int deepest = 0;
    for (String one : level) {
      for (String next : calls.get(one)) {
        deepest = level.contains(next) ? deepest : Math.max(deepest, depthFrom(next, calls, reached));
      }
    }
    return 1 + deepest;
  }
}
