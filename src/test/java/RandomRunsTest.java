import java.util.Random;

/** Long runs of all calls, drawn by fixed seeds, each answer compared with the plain prover's. */
public final class RandomRunsTest {
  private static final int RUNS = 400;

  /** An object has 512 calls at most, and the last step may take many. */
  private static final int CALLS = 512 - 130;

  private static final int[] ODD = {
    -1, 0, 1, 2, 3, 4, 5, 8, 9, 14, 119, 120, 239, 240, 5000, 5001, Integer.MIN_VALUE, Integer.MAX_VALUE
  };
  private static final String[] SIGNS = {"&", "|", "^", "->", "<->"};
  private static final String[] PIECES = {
    "a", "b", "c1", "true", "false", "(", ")", "~", "&", "|", "^", "->", "<->", "-", "<", "$", " ",
    "toolong", "Z", "7", "\t", "zz", "(", "~", "&", "->"
  };

  private final Check check;
  private final Random random;
  private final int names;
  private final DilemmaProver prover = new DilemmaProver();
  private final PlainProver plain = new PlainProver();
  private final String title;
  private int calls = 0;

  private RandomRunsTest(Check check, int run) {
    this.check = check;
    this.random = new Random(run);
    this.names = new int[] {2, 3, 4, 6, 9, 13, 16, 30}[run % 8];
    this.title = "run " + run;
  }

  public static void main(String[] args) {
    Check check = new Check("RandomRunsTest");
    for (int run = 0; run < RUNS && check.wrong() == 0; run++) {
      new RandomRunsTest(check, run).go();
    }
    check.end();
  }

  private void due(String call, long got, long want) {
    calls++;
    check.due(title + ", call " + calls + ": " + call, got, want);
  }

  private void go() {
    if (random.nextInt(6) == 0) {
      fill(112 + random.nextInt(9));
    }
    while (calls < CALLS && check.wrong() == 0) {
      step();
    }
  }

  private void step() {
    int kind = random.nextInt(100);
    if (kind < 9) {
      readFormula(text());
    } else if (kind < 12) {
      proveTwins();
    } else if (kind < 20) {
      int gate = random.nextInt(12) == 0 ? odd() : 2 + random.nextInt(2);
      int a = literal();
      int b = literal();
      due("gate(" + gate + ", " + a + ", " + b + ")", prover.gate(gate, a, b), plain.gate(gate, a, b));
    } else if (kind < 35) {
      int a = literal();
      int b = random.nextInt(3) == 0 ? random.nextInt(2) : literal();
      due("join(" + a + ", " + b + ")", prover.join(a, b), plain.join(a, b));
    } else if (kind < 45) {
      saturateAndTold();
    } else if (kind < 55) {
      proveAndTold(literal(), depth(), steps());
    } else if (kind < 60) {
      lookAtAll();
    } else if (kind < 85) {
      ask(random.nextInt(7));
    } else if (kind < 90) {
      due("forget()", prover.forget(), plain.forget());
    } else if (kind < 91) {
      due("clear()", prover.clear(), plain.clear());
    } else {
      feedOdd();
    }
  }

  /** Makes gates, so that the run goes on close to the end of the room for variables. */
  private void fill(int variables) {
    readFormula(formula(4));
    while (plain.count(0) < variables) {
      int kind = 2 + random.nextInt(2);
      int a = random.nextInt(2 * plain.count(0));
      int b = random.nextInt(2 * plain.count(0));
      due("gate(" + kind + ", " + a + ", " + b + ")", prover.gate(kind, a, b), plain.gate(kind, a, b));
    }
  }

  /** Proves that two formulas that have one value, but not one form, are the same. */
  private void proveTwins() {
    String[] twins = twins(1 + random.nextInt(3));
    readFormula(twins[0] + "<->" + twins[1]);
    int l = plain.read();
    due("read() again", prover.read(), l);
    if (l >= 0) {
      proveAndTold(l, random.nextInt(5), 300);
      due("model(" + l + ")", prover.model(l), plain.model(l));
    }
  }

  private void readFormula(String text) {
    feedBoth(0L, 0);
    for (int from = 0; from < text.length(); from += 8) {
      String part = text.substring(from, Math.min(text.length(), from + 8));
      feedBoth(Check.bytes(part), part.length());
    }
    due("read() of " + text, prover.read(), plain.read());
    due("place() in " + text, prover.place(), plain.place());
    due("count(0) behind " + text, prover.count(0), plain.count(0));
    due("count(3) behind " + text, prover.count(3), plain.count(3));
  }

  private void feedBoth(long v, int n) {
    due("feed(" + v + ", " + n + ")", prover.feed(v, n), plain.feed(v, n));
  }

  private void feedOdd() {
    int n = random.nextInt(4) == 0 ? odd() : random.nextInt(9);
    feedBoth(random.nextLong(), n);
    if (random.nextInt(3) == 0) {
      due("read()", prover.read(), plain.read());
      due("place()", prover.place(), plain.place());
    }
  }

  private void saturateAndTold() {
    int depth = depth();
    int steps = steps();
    String call = "saturate(" + depth + ", " + steps + ")";
    due(call, prover.saturate(depth, steps), plain.saturate(depth, steps));
    askTold(call);
    due("count(3) behind " + call, prover.count(3), plain.count(3));
  }

  private void proveAndTold(int l, int depth, int steps) {
    String call = "prove(" + l + ", " + depth + ", " + steps + ")";
    due(call, prover.prove(l, depth, steps), plain.prove(l, depth, steps));
    askTold(call);
  }

  private void askTold(String call) {
    for (int what = 0; what < 4; what++) {
      due("told(" + what + ") behind " + call, prover.told(what), plain.told(what));
    }
  }

  private void lookAtAll() {
    int variables = plain.count(0);
    for (int i = 0; i < 12; i++) {
      int l = random.nextInt(2 * variables);
      due("stands(" + l + ")", prover.stands(l), plain.stands(l));
      int v = random.nextInt(variables);
      int what = random.nextInt(3);
      due("variable(" + v + ", " + what + ")", prover.variable(v, what), plain.variable(v, what));
    }
  }

  private void ask(int which) {
    int a = literal();
    int b = literal();
    int n = random.nextInt(5) == 0 ? odd() : random.nextInt(1 << Math.min(24, plain.count(1)));
    switch (which) {
      case 0:
        due("count(" + n + ")", prover.count(n), plain.count(n));
        break;
      case 1:
        due("sign(" + a / 2 + ", " + n % 7 + ")", prover.sign(a / 2, n % 7), plain.sign(a / 2, n % 7));
        break;
      case 2:
        due("told(" + n + ")", prover.told(n), plain.told(n));
        break;
      case 3:
        due("variable(" + a + ", " + n + ")", prover.variable(a, n), plain.variable(a, n));
        break;
      case 4:
        due("value(" + a + ", " + n + ")", prover.value(a, n), plain.value(a, n));
        break;
      case 5:
        due("model(" + a + ")", prover.model(a), plain.model(a));
        break;
      default:
        due("alike(" + a + ", " + b + ")", prover.alike(a, b), plain.alike(a, b));
    }
  }

  private int odd() {
    return ODD[random.nextInt(ODD.length)];
  }

  private int literal() {
    return random.nextInt(25) == 0 ? odd() : random.nextInt(2 * plain.count(0));
  }

  private int depth() {
    return random.nextInt(25) == 0 ? odd() : random.nextInt(5);
  }

  private int steps() {
    switch (random.nextInt(20)) {
      case 0:
        return odd();
      case 1:
      case 2:
        return random.nextInt(5);
      default:
        // The plain prover is slow where there are many variables.
        return random.nextInt(plain.count(0) > 30 ? 30 : 200);
    }
  }

  private String text() {
    int kind = random.nextInt(20);
    if (kind < 10) {
      return formula(random.nextInt(6));
    }
    if (kind < 14) {
      return broken(formula(2 + random.nextInt(3)));
    }
    if (kind < 17) {
      return pieces(random.nextInt(14));
    }
    return deep();
  }

  private String name() {
    int kind = random.nextInt(20);
    return kind == 0 ? "true" : kind == 1 ? "false" : Check.name(random.nextInt(names));
  }

  private String formula(int depth) {
    int kind = random.nextInt(8);
    if (depth == 0 || kind == 0) {
      return name();
    }
    if (kind == 1) {
      return "~" + formula(depth - 1);
    }
    if (kind == 2) {
      return "(" + formula(depth - 1) + ")";
    }
    String sign = SIGNS[random.nextInt(SIGNS.length)];
    String both = formula(depth - 1) + sign + formula(depth - 1);
    return kind < 6 ? "(" + both + ")" : both;
  }

  private String[] twins(int depth) {
    if (depth == 0) {
      String name = name();
      return new String[] {name, name};
    }
    String[] a = twins(depth - 1);
    String[] b = twins(depth - 1);
    switch (random.nextInt(6)) {
      case 0:
        return new String[] {"(" + a[0] + "&" + b[0] + ")", "~(~" + b[1] + "|~" + a[1] + ")"};
      case 1:
        return new String[] {"(" + a[0] + "|" + b[0] + ")", "(~" + b[1] + "->" + a[1] + ")"};
      case 2:
        return new String[] {"(" + a[0] + "^" + b[0] + ")", "(" + a[1] + "&~" + b[1] + "|~" + a[1] + "&" + b[1] + ")"};
      case 3:
        return new String[] {"(" + a[0] + "<->" + b[0] + ")", "((" + a[1] + "->" + b[1] + ")&(" + b[1] + "->" + a[1] + "))"};
      case 4:
        return new String[] {"(" + a[0] + "->" + b[0] + ")", "(" + a[1] + "<->" + a[1] + "&" + b[1] + ")"};
      default:
        String c = name();
        return new String[] {"(" + a[0] + "^" + b[0] + "^" + c + ")", "(" + c + "^" + a[1] + "^" + b[1] + ")"};
    }
  }

  private String broken(String text) {
    int at = random.nextInt(text.length() + 1);
    String piece = PIECES[random.nextInt(PIECES.length)];
    int behind = Math.min(text.length(), at + random.nextInt(3));
    return text.substring(0, at) + piece + text.substring(behind);
  }

  private String pieces(int n) {
    StringBuilder all = new StringBuilder();
    for (int i = 0; i < n; i++) {
      all.append(PIECES[random.nextInt(PIECES.length)]);
    }
    return all.toString();
  }

  /** About as deep as may be: 36 to 43 signs that open something. */
  private String deep() {
    StringBuilder front = new StringBuilder();
    StringBuilder back = new StringBuilder();
    int signs = 36 + random.nextInt(8);
    for (int i = 0; i < signs; i++) {
      int kind = random.nextInt(4);
      front.append(kind == 0 ? "(" : kind == 1 ? "true->" : kind == 2 ? "~(" : "~");
      back.append(kind == 0 || kind == 2 ? ")" : "");
      i += kind == 2 ? 1 : 0;
    }
    return front + name() + back;
  }
}
