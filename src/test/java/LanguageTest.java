import java.io.IOException;
import java.lang.reflect.Constructor;
import java.lang.reflect.Field;
import java.lang.reflect.Method;
import java.lang.reflect.Modifier;
import java.nio.file.Files;
import java.nio.file.Path;
import java.util.Set;
import java.util.TreeSet;
import java.util.regex.Matcher;
import java.util.regex.Pattern;

/** Rules of LANGUAGE.md that can be looked at from outside: the face, and words that are not to be. */
public final class LanguageTest {
  private static final Check CHECK = new Check("LanguageTest");
  private static final Set<String> FACE = Set.of(
      "feed(long,int)", "read()", "place()", "count(int)", "variable(int,int)", "gate(int,int,int)",
      "sign(int,int)", "clear()", "forget()", "join(int,int)", "stands(int)", "saturate(int,int)",
      "prove(int,int,int)", "told(int)", "value(int,int)", "model(int)", "alike(int,int)");

  public static void main(String[] args) throws IOException {
    face();
    for (Class<?> inner : DilemmaProver.class.getDeclaredClasses()) {
      innerClass(inner);
    }
    words(Files.readString(Path.of("src/main/java/DilemmaProver.java")));
    CHECK.end();
  }

  private static void face() {
    Class<?> type = DilemmaProver.class;
    CHECK.holds("public final", Modifier.isPublic(type.getModifiers()) && Modifier.isFinal(type.getModifiers()));
    Constructor<?>[] constructors = type.getDeclaredConstructors();
    CHECK.due("constructors", constructors.length, 1);
    CHECK.holds("a public one without parameters",
        Modifier.isPublic(constructors[0].getModifiers()) && constructors[0].getParameterCount() == 0);
    Set<String> seen = new TreeSet<>();
    for (Method method : type.getDeclaredMethods()) {
      if (Modifier.isPrivate(method.getModifiers())) {
        CHECK.holds(method + " has a name of its own", !isFaceName(method.getName()));
        continue;
      }
      CHECK.holds(method + " is public", Modifier.isPublic(method.getModifiers()));
      CHECK.holds(method + " answers an int", method.getReturnType() == int.class);
      seen.add(signature(method));
    }
    CHECK.holds("the face is " + FACE + ", seen was " + seen, seen.equals(FACE));
    for (Field field : type.getDeclaredFields()) {
      CHECK.holds(field + " is private", Modifier.isPrivate(field.getModifiers()));
      isFinalIfStatic(field);
    }
  }

  private static boolean isFaceName(String name) {
    return FACE.stream().anyMatch(one -> one.startsWith(name + "("));
  }

  private static String signature(Method method) {
    StringBuilder all = new StringBuilder(method.getName()).append("(");
    for (Class<?> parameter : method.getParameterTypes()) {
      all.append(all.charAt(all.length() - 1) == '(' ? "" : ",").append(parameter.getName());
    }
    return all.append(")").toString();
  }

  private static void innerClass(Class<?> inner) {
    CHECK.holds(inner + " is private and static",
        Modifier.isPrivate(inner.getModifiers()) && Modifier.isStatic(inner.getModifiers()));
    for (Field field : inner.getDeclaredFields()) {
      isFinalIfStatic(field);
    }
    for (Method method : inner.getDeclaredMethods()) {
      CHECK.holds(method + " has a name of its own", !isFaceName(method.getName()));
      CHECK.holds(method + " has at most seven parameters", method.getParameterCount() <= 7);
    }
    int rows = 0;
    for (Field field : inner.getDeclaredFields()) {
      rows += Modifier.isStatic(field.getModifiers()) ? 0 : 1;
    }
    CHECK.holds(inner + " has at most twenty fields", rows <= 20);
  }

  private static void isFinalIfStatic(Field field) {
    int modifiers = field.getModifiers();
    CHECK.holds(field + " is final if static", !Modifier.isStatic(modifiers) || Modifier.isFinal(modifiers));
  }

  private static void words(String source) {
    String code = source
        .replaceAll("(?s)/\\*.*?\\*/", " ")
        .replaceAll("//[^\n]*", " ")
        .replaceAll("\"(\\\\.|[^\"\\\\])*\"", "\"\"")
        .replaceAll("'(\\\\.|[^'\\\\])'", "' '");
    Matcher word = Pattern.compile(
        "\\b(throw|throws|try|catch|finally|synchronized|assert|package|import|native|volatile|"
            + "transient|Object|Thread|Random|equals|hashCode|toString|var)\\b|->|::|Exact\\b").matcher(code);
    CHECK.holds("no word that is not to be" + (word.find() ? ": " + word.group() : ""), !word.reset().find());
    CHECK.holds("no while without a counter", !Pattern.compile("\\bwhile\\b").matcher(code).find());
  }
}
