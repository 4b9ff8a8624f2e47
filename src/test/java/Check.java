/** Counts the answers that are not as due, and ends a test with the exit code that says so. */
final class Check {
  private static final int MOST_TOLD = 40;

  private final String title;
  private String sentence = "";
  private int askedOfIt = 1;
  private int asked = 0;
  private int wrong = 0;

  Check(String title) {
    this.title = title;
  }

  /** All that is asked from here on is asked of this sentence of the document. */
  void sentence(String words) {
    endSentence();
    sentence = " [" + words + "]";
    askedOfIt = 0;
  }

  /** A sentence of which nothing was asked would pass unseen. */
  private void endSentence() {
    if (askedOfIt == 0) {
      fail("nothing is asked");
    }
  }

  void due(String what, long got, long want) {
    count();
    if (got != want) {
      fail(what + " answered " + got + ", due is " + want);
    }
  }

  void due(String what, String got, String want) {
    count();
    if (!got.equals(want)) {
      fail(what + " is\n  " + got + ", due is\n  " + want);
    }
  }

  void holds(String what, boolean holds) {
    count();
    if (!holds) {
      fail(what + " does not hold");
    }
  }

  private void count() {
    asked++;
    askedOfIt++;
  }

  private void fail(String line) {
    wrong++;
    if (wrong <= MOST_TOLD) {
      System.out.println(title + sentence + ": " + line);
    }
  }

  int wrong() {
    return wrong;
  }

  void end() {
    endSentence();
    System.out.println(title + ": " + asked + " answers, " + wrong + " not as due");
    if (asked == 0 || wrong != 0) {
      System.exit(1);
    }
  }

  /** Makes a text the whole text of a prover, eight bytes a call. */
  static void give(DilemmaProver prover, String text) {
    prover.feed(0L, 0);
    for (int from = 0; from < text.length(); from += 8) {
      String part = text.substring(from, Math.min(text.length(), from + 8));
      prover.feed(bytes(part), part.length());
    }
  }

  static int readText(DilemmaProver prover, String text) {
    give(prover, text);
    return prover.read();
  }

  static long bytes(String part) {
    long v = 0;
    for (int i = 0; i < part.length(); i++) {
      v = v << 8 | part.charAt(i);
    }
    return v;
  }

  /** A prover with a text that no call has read yet. */
  static DilemmaProver given(String text) {
    DilemmaProver prover = new DilemmaProver();
    give(prover, text);
    return prover;
  }

  /** A prover that has read a text. */
  static DilemmaProver having(String text) {
    DilemmaProver prover = given(text);
    prover.read();
    return prover;
  }

  /**
   * A prover that has read a text, and then gates AND(0, 0), AND(0, AND(0, 0)), .. till there are as
   * many variables as wanted.
   */
  static DilemmaProver filled(String text, int variables) {
    DilemmaProver prover = having(text);
    int last = 0;
    for (int v = prover.count(0); v < variables; v++) {
      last = prover.gate(2, 0, last);
    }
    return prover;
  }

  /** All that can be asked of a prover without changing it; the text cannot be asked for so. */
  static String seen(DilemmaProver prover) {
    StringBuilder all = new StringBuilder("place ").append(prover.place());
    for (int what = 0; what < 4; what++) {
      all.append(" count ").append(prover.count(what)).append(" told ").append(prover.told(what));
    }
    for (int v = 0; v < prover.count(0); v++) {
      all.append(" |");
      for (int what = 0; what < 3; what++) {
        all.append(" ").append(prover.variable(v, what));
      }
      all.append(" ").append(prover.sign(v, 0)).append(" = ").append(prover.stands(2 * v));
    }
    return all.toString();
  }

  static String repeat(String part, int times) {
    return part.repeat(times);
  }

  /** n names, no two alike: a0, b0, .. z0, a1, .. */
  static String name(int i) {
    return (char) ('a' + i % 26) + Integer.toString(i / 26);
  }

  static String names(int n, String between) {
    StringBuilder all = new StringBuilder();
    for (int i = 0; i < n; i++) {
      all.append(i == 0 ? "" : between).append(name(i));
    }
    return all.toString();
  }
}
