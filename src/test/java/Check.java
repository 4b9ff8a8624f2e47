/** Counts the answers that are not as due, and ends a test with the exit code that says so. */
final class Check {
  private static final int MOST_TOLD = 40;

  private final String title;
  private int asked = 0;
  private int wrong = 0;

  Check(String title) {
    this.title = title;
  }

  void due(String what, long got, long want) {
    asked++;
    if (got != want) {
      fail(what + " answered " + got + ", due is " + want);
    }
  }

  void holds(String what, boolean holds) {
    asked++;
    if (!holds) {
      fail(what + " does not hold");
    }
  }

  private void fail(String line) {
    wrong++;
    if (wrong <= MOST_TOLD) {
      System.out.println(title + ": " + line);
    }
  }

  int wrong() {
    return wrong;
  }

  void end() {
    System.out.println(title + ": " + asked + " answers, " + wrong + " not as due");
    if (asked == 0 || wrong != 0) {
      System.exit(1);
    }
  }

  /** Makes a text the whole text of a prover, eight bytes a call. */
  static void give(DilemmaProver prover, String text) {
    prover.feed(0L, 0);
    for (int from = 0; from < text.length(); from += 8) {
      String part = text.substring(from, Math.min(text.length(), from + 8));
      prover.feed(bytes(part), part.length());
    }
  }

  static int readText(DilemmaProver prover, String text) {
    give(prover, text);
    return prover.read();
  }

  static long bytes(String part) {
    long v = 0;
    for (int i = 0; i < part.length(); i++) {
      v = v << 8 | part.charAt(i);
    }
    return v;
  }

  static String repeat(String part, int times) {
    return part.repeat(times);
  }

  /** n names, no two alike: a0, b0, .. z0, a1, .. */
  static String name(int i) {
    return (char) ('a' + i % 26) + Integer.toString(i / 26);
  }

  static String names(int n, String between) {
    StringBuilder all = new StringBuilder();
    for (int i = 0; i < n; i++) {
      all.append(i == 0 ? "" : between).append(name(i));
    }
    return all.toString();
  }
}
