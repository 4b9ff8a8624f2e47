/** Promises 5 to 9: count, variable, gate, sign, clear. */
public final class CircuitTest {
  private static final Check CHECK = new Check("CircuitTest");
  private static final int LEAST = Integer.MIN_VALUE;
  private static final int MOST = Integer.MAX_VALUE;

  public static void main(String[] args) {
    counting();
    variables();
    gates();
    fullOfGates();
    signs();
    clearing();
    CHECK.end();
  }

  private static void counting() {
    DilemmaProver p = new DilemmaProver();
    Check.readText(p, "(a->b)&c");
    CHECK.due("variables", p.count(0), 6);
    CHECK.due("inputs", p.count(1), 3);
    CHECK.due("gates", p.count(2), 2);
    CHECK.due("classes", p.count(3), 12);
    p.join(2, 5);
    CHECK.due("classes behind a join", p.count(3), 10);
    p.gate(3, 0, 1);
    CHECK.due("a new one is alone", p.count(3), 12);
    p.join(2, 4);
    CHECK.due("classes in a contradiction", p.count(3), -3);
    CHECK.due("variables in a contradiction", p.count(0), 7);
    p.gate(3, 0, 2);
    CHECK.due("a new one does not end it", p.count(3), -3);
    CHECK.due("count(4)", p.count(4), -2);
    CHECK.due("count(-1)", p.count(-1), -2);
    CHECK.due("count(least)", p.count(LEAST), -2);
    CHECK.due("count(most)", p.count(MOST), -2);
  }

  private static void isVariable(DilemmaProver p, int v, int kind, int first, int second) {
    CHECK.due("kind of " + v, p.variable(v, 0), kind);
    CHECK.due("first of " + v, p.variable(v, 1), first);
    CHECK.due("second of " + v, p.variable(v, 2), second);
    CHECK.due("variable(" + v + ", 3)", p.variable(v, 3), -2);
    CHECK.due("variable(" + v + ", -1)", p.variable(v, -1), -2);
  }

  private static void variables() {
    DilemmaProver p = new DilemmaProver();
    isVariable(p, 0, 0, 0, 0);
    CHECK.due("variable(1, 0)", p.variable(1, 0), -1);
    Check.readText(p, "(b|~a)<->b");
    isVariable(p, 1, 1, 0, 0);
    isVariable(p, 2, 1, 1, 0);
    isVariable(p, 3, 2, 3, 4);
    isVariable(p, 4, 3, 2, 7);
    Check.readText(p, "c");
    isVariable(p, 5, 1, 2, 0);
    CHECK.due("variable(6, 0)", p.variable(6, 0), -1);
    CHECK.due("variable(6, 9): the first that fits", p.variable(6, 9), -1);
    CHECK.due("variable(-1, 0)", p.variable(-1, 0), -1);
    CHECK.due("variable(least, 0)", p.variable(LEAST, 0), -1);
    CHECK.due("variable(most, 0)", p.variable(MOST, 0), -1);
  }

  private static void gates() {
    DilemmaProver p = new DilemmaProver();
    CHECK.due("AND(0, 0)", p.gate(2, 0, 0), 2);
    CHECK.due("AND(0, 0) again", p.gate(2, 0, 0), 2);
    CHECK.due("SAME(0, 0)", p.gate(3, 0, 0), 4);
    CHECK.due("AND(3, 1)", p.gate(2, 3, 1), 6);
    isVariable(p, 3, 2, 1, 3);
    CHECK.due("AND(1, 3)", p.gate(2, 1, 3), 6);
    CHECK.due("SAME(1, 3)", p.gate(3, 1, 3), 8);
    CHECK.due("SAME(1, 2)", p.gate(3, 1, 2), 10);
    CHECK.due("SAME(10, 11)", p.gate(3, 11, 10), 12);
    isVariable(p, 6, 3, 10, 11);
    CHECK.due("no a", p.gate(2, 14, 0), -1);
    CHECK.due("no b", p.gate(2, 0, 14), -1);
    CHECK.due("a below 0", p.gate(2, -1, 0), -1);
    CHECK.due("b below 0", p.gate(3, 0, LEAST), -1);
    CHECK.due("b far above", p.gate(3, 0, MOST), -1);
    CHECK.due("kind 1", p.gate(1, 0, 0), -2);
    CHECK.due("kind 4", p.gate(4, 0, 0), -2);
    CHECK.due("kind 0", p.gate(0, 0, 0), -2);
    CHECK.due("kind -2", p.gate(-2, 0, 0), -2);
    CHECK.due("-1 ahead of -2", p.gate(1, 14, 0), -1);
    CHECK.due("nothing was made", p.count(0), 7);
    CHECK.due("a gate of a read formula", Check.readText(p, "true&true"), 2);
  }

  private static void fullOfGates() {
    DilemmaProver p = new DilemmaProver();
    for (int v = 1; v < 120; v++) {
      CHECK.due("gate " + v, p.gate(2 + v % 2, 0, 2 * v - 1), 2 * v);
    }
    CHECK.due("no room", p.gate(2, 0, 239), -4);
    CHECK.due("one that there is", p.gate(3, 1, 0), 2);
    CHECK.due("-1 ahead of -4", p.gate(2, 0, 240), -1);
    CHECK.due("-2 ahead of -4", p.gate(7, 0, 239), -2);
    CHECK.due("gates", p.count(2), 119);
    CHECK.due("classes", p.count(3), 240);
    CHECK.due("stands(239)", p.stands(239), 239);
  }

  private static void signs() {
    DilemmaProver p = new DilemmaProver();
    Check.readText(p, "ab1234 & z");
    String name = "ab1234";
    for (int i = 0; i < name.length(); i++) {
      CHECK.due("sign(1, " + i + ")", p.sign(1, i), name.charAt(i));
    }
    CHECK.due("sign(1, 6)", p.sign(1, 6), -1);
    CHECK.due("sign(1, -1)", p.sign(1, -1), -1);
    CHECK.due("sign(2, 0)", p.sign(2, 0), 'z');
    CHECK.due("sign(2, 1)", p.sign(2, 1), -1);
    CHECK.due("sign of a gate", p.sign(3, 0), -1);
    CHECK.due("sign of TRUE", p.sign(0, 0), -1);
    CHECK.due("sign of none", p.sign(4, 0), -1);
    CHECK.due("sign(-1, 0)", p.sign(-1, 0), -1);
    CHECK.due("sign(least, least)", p.sign(LEAST, LEAST), -1);
    CHECK.due("sign(most, most)", p.sign(MOST, MOST), -1);
    CHECK.due("sign(1, most)", p.sign(1, MOST), -1);
    CHECK.due("sign(1, least)", p.sign(1, LEAST), -1);
    p.clear();
    CHECK.due("sign behind clear()", p.sign(1, 0), -1);
    Check.readText(p, "true&true | x");
    CHECK.due("an input behind a gate", p.sign(2, 0), 'x');
    CHECK.due("a name is not mixed with an older one", p.sign(2, 1), -1);
  }

  private static void clearing() {
    DilemmaProver p = new DilemmaProver();
    CHECK.due("clear a new one", p.clear(), 1);
    Check.readText(p, "a&~a");
    p.prove(5, 1, 100);
    int steps = p.told(0);
    CHECK.holds("steps were told", steps > 0);
    p.join(0, 1);
    CHECK.due("clear", p.clear(), 3);
    CHECK.due("variables", p.count(0), 1);
    CHECK.due("inputs", p.count(1), 0);
    CHECK.due("gates", p.count(2), 0);
    CHECK.due("classes: the contradiction is gone", p.count(3), 2);
    CHECK.due("what was told stays", p.told(0), steps);
    CHECK.due("variable(1, 0)", p.variable(1, 0), -1);
    CHECK.due("the text stays", p.read(), 4);
    CHECK.due("made anew", p.count(3), 6);
    p.join(2, 4);
    p.clear();
    Check.readText(p, "a&b");
    CHECK.due("a new variable is alone", p.stands(4), 4);
    CHECK.due("all are alone", p.count(3), 8);
    CHECK.due("numbers begin anew", p.variable(2, 1), 1);
  }
}
