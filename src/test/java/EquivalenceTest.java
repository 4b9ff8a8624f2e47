/** Promises 10 to 13: forget, join, stands, saturate; and each rule of the gates. */
public final class EquivalenceTest {
  private static final Check CHECK = new Check("EquivalenceTest");
  private static final int LEAST = Integer.MIN_VALUE;
  private static final int MOST = Integer.MAX_VALUE;

  public static void main(String[] args) {
    forgetting();
    joining();
    standing();
    rulesOfAnd();
    rulesOfSame();
    rulesThatSayNothing();
    rounds();
    refusals();
    spending();
    gatesOfConstants();
    dilemmas();
    dilemmasThatBreakOnce();
    likeThePlainProver("(a|~p|~q)&(a|~r|~s)&(~v|p)&(~v|q)&(v|r)&(v|s)");
    likeThePlainProver("(a&b)|(a&~b)");
    likeThePlainProver("(a|b|c)&(a^b^c)&(~a|~c)");
    CHECK.end();
  }

  /** A prover with inputs a (2), b (4) and perhaps more, and then a gate. */
  private static DilemmaProver with(String text) {
    DilemmaProver p = new DilemmaProver();
    CHECK.holds(text + " is read", Check.readText(p, text) >= 0);
    return p;
  }

  private static void forgetting() {
    DilemmaProver p = with("a&b");
    CHECK.due("forget", p.forget(), 8);
    p.join(2, 4);
    p.join(6, 1);
    CHECK.due("forget behind joins", p.forget(), 4);
    CHECK.due("alone again", p.count(3), 8);
    CHECK.due("stands(4)", p.stands(4), 4);
    p.join(2, 3);
    CHECK.due("forget in a contradiction", p.forget(), -3);
    CHECK.due("it is gone", p.count(3), 8);
    CHECK.due("forget again", p.forget(), 8);
    CHECK.due("the variables stay", p.count(0), 4);
  }

  private static void joining() {
    DilemmaProver p = with("a&b");
    CHECK.due("join(2, 2)", p.join(2, 2), 0);
    CHECK.due("join(2, 5)", p.join(2, 5), 1);
    CHECK.due("join(5, 2)", p.join(5, 2), 0);
    CHECK.due("join(3, 4): turned", p.join(3, 4), 0);
    CHECK.due("join(4, 6)", p.join(4, 6), 1);
    CHECK.due("join(7, 2): by way of 4", p.join(7, 2), 0);
    CHECK.due("no a", p.join(8, 0), -1);
    CHECK.due("no b", p.join(0, 8), -1);
    CHECK.due("a below 0", p.join(-1, 0), -1);
    CHECK.due("b least", p.join(0, LEAST), -1);
    CHECK.due("b most", p.join(0, MOST), -1);
    CHECK.due("a contradiction", p.join(6, 2), 2);
    CHECK.due("in it", p.join(2, 2), -3);
    CHECK.due("-1 ahead of -3", p.join(2, 8), -1);
    p.forget();
    CHECK.due("join(0, 1)", p.join(0, 1), 2);
    p.forget();
    CHECK.due("join(5, 4)", p.join(5, 4), 2);
  }

  private static void standing() {
    DilemmaProver p = with("a&b&c");
    p.join(8, 5);
    p.join(10, 8);
    CHECK.due("stands(4)", p.stands(4), 4);
    CHECK.due("stands(8)", p.stands(8), 5);
    CHECK.due("stands(9)", p.stands(9), 4);
    CHECK.due("stands(10)", p.stands(10), 5);
    CHECK.due("stands(11)", p.stands(11), 4);
    p.join(3, 10);
    CHECK.due("a lesser one joins: stands(4)", p.stands(4), 2);
    CHECK.due("stands(8)", p.stands(8), 3);
    CHECK.due("stands(2)", p.stands(2), 2);
    p.join(1, 5);
    CHECK.due("1 joins: stands(10)", p.stands(10), 1);
    CHECK.due("stands(2)", p.stands(2), 0);
    CHECK.due("stands(6)", p.stands(6), 6);
    CHECK.due("no such literal", p.stands(12), -1);
    CHECK.due("stands(-1)", p.stands(-1), -1);
    CHECK.due("stands(least)", p.stands(LEAST), -1);
    CHECK.due("stands(most)", p.stands(MOST), -1);
    p.join(0, 1);
    CHECK.due("in a contradiction", p.stands(2), -3);
    CHECK.due("-1 ahead of -3", p.stands(12), -1);
  }

  /**
   * Joins two literals, saturates to depth 0 and asks which pairs are of one class then. The gate
   * x is 6, its literals are 2 and 4.
   */
  private static void rule(String text, int a, int b, int... pairs) {
    DilemmaProver p = with(text);
    p.join(a, b);
    String title = text + " with " + a + " = " + b;
    CHECK.due(title + ": saturate", p.saturate(0, 1), 1);
    CHECK.due(title + ": a round tells all, another makes none fewer", p.told(1), pairs.length == 0 ? 1 : 2);
    for (int i = 0; i + 1 < pairs.length; i += 2) {
      CHECK.due(title + ": " + pairs[i] + " = " + pairs[i + 1], p.join(pairs[i], pairs[i + 1]), 0);
    }
    int classes = 2 * p.count(0) - 2 - pairs.length;
    CHECK.due(title + ": classes", p.count(3), classes);
  }

  private static void rulesOfAnd() {
    rule("a&b", 2, 0, 6, 4);
    rule("a&b", 4, 0, 6, 2);
    rule("a&b", 2, 1, 6, 1);
    rule("a&b", 4, 1, 6, 1);
    rule("a&b", 2, 4, 6, 2);
    rule("a&b", 2, 5, 6, 1);
    rule("a&b", 6, 0, 2, 0, 4, 0);
    rule("a&b", 6, 3, 2, 0, 4, 1);
    rule("a&b", 6, 5, 4, 0, 2, 1);
  }

  private static void rulesOfSame() {
    rule("a<->b", 2, 0, 6, 4);
    rule("a<->b", 2, 1, 6, 5);
    rule("a<->b", 4, 0, 6, 2);
    rule("a<->b", 4, 1, 6, 3);
    rule("a<->b", 6, 0, 2, 4);
    rule("a<->b", 6, 1, 2, 5);
    rule("a<->b", 2, 4, 6, 0);
    rule("a<->b", 2, 5, 6, 1);
    rule("a<->b", 6, 2, 4, 0);
    rule("a<->b", 6, 3, 4, 1);
    rule("a<->b", 6, 4, 2, 0);
    rule("a<->b", 6, 5, 2, 1);
  }

  private static void rulesThatSayNothing() {
    rule("a&b", 6, 1);
    rule("a&b", 6, 2);
    rule("a&b", 6, 4);
    DilemmaProver p = with("(a&b)<->(c&d)");
    CHECK.due("nothing to do", p.saturate(0, 1), 1);
    CHECK.due("all are alone", p.count(3), 16);
    CHECK.due("one round", p.told(1), 1);
  }

  private static void rounds() {
    // a&b, a&b&c, a&b&c&d: what is known of the last goes down by one gate a round.
    DilemmaProver p = with("a&b&c&d");
    p.join(14, 0);
    CHECK.due("down", p.saturate(0, 1), 1);
    CHECK.due("all are true", p.count(3), 2);
    CHECK.due("three rounds and one that makes none fewer", p.told(1), 4);
    // What is known of the first goes up by one gate a round, too, though it is met first.
    p = with("a&b&c&d");
    p.join(2, 1);
    CHECK.due("up", p.saturate(0, 1), 1);
    CHECK.due("rounds go by what was there when they began", p.told(1), 4);
    CHECK.due("b, c, d are free", p.count(3), 8);
    p = with("a&~a");
    p.join(4, 0);
    CHECK.due("a contradiction", p.saturate(0, 1), 0);
    CHECK.due("in one round", p.told(1), 1);
    CHECK.due("it stays", p.count(3), -3);
    CHECK.due("one step", p.told(0), 1);
  }

  private static void refusals() {
    DilemmaProver p = with("a&~a");
    CHECK.due("told before any", p.told(0), 0);
    CHECK.due("depth -1", p.saturate(-1, 10), -2);
    CHECK.due("depth 5", p.saturate(5, 10), -2);
    CHECK.due("depth least", p.saturate(LEAST, 10), -2);
    CHECK.due("depth most", p.saturate(MOST, 10), -2);
    CHECK.due("steps -1", p.saturate(0, -1), -2);
    CHECK.due("steps 5001", p.saturate(0, 5001), -2);
    CHECK.due("steps most", p.saturate(0, MOST), -2);
    CHECK.due("nothing was told", p.told(0), 0);
    CHECK.due("steps 5000, depth 4", p.saturate(4, 5000), 1);
    int steps = p.told(0);
    CHECK.holds("steps were told", steps > 0);
    p.join(0, 1);
    CHECK.due("in a contradiction", p.saturate(0, 10), -3);
    CHECK.due("-2 ahead of -3", p.saturate(0, 5001), -2);
    CHECK.due("steps 0 in a contradiction", p.saturate(0, 0), -3);
    CHECK.due("told stays", p.told(0), steps);
  }

  private static void spending() {
    DilemmaProver p = with("a&b&c");
    p.join(10, 0);
    CHECK.due("no steps at all", p.saturate(0, 0), -6);
    CHECK.due("the equivalence stays", p.count(3), 10);
    for (int what = 0; what < 4; what++) {
      CHECK.due("told(" + what + ")", p.told(what), 0);
    }
    CHECK.due("one step is enough", p.saturate(0, 1), 1);
    p.forget();
    p.join(10, 1);
    p.saturate(2, 5000);
    int need = p.told(0);
    int classes = p.count(3);
    p.forget();
    p.join(10, 1);
    CHECK.due("one step too few", p.saturate(2, need - 1), -6);
    CHECK.due("all but one began", p.told(0), need - 1);
    CHECK.due("the equivalence stays as it was", p.count(3), 10);
    CHECK.due("just enough", p.saturate(2, need), 1);
    CHECK.due("the same end", p.count(3), classes);
  }

  private static void gatesOfConstants() {
    DilemmaProver p = new DilemmaProver();
    p.gate(2, 0, 0);
    p.gate(2, 0, 1);
    p.gate(3, 1, 1);
    p.gate(3, 0, 1);
    CHECK.due("saturate", p.saturate(0, 1), 1);
    CHECK.due("AND(0, 0)", p.stands(2), 0);
    CHECK.due("AND(0, 1)", p.stands(4), 1);
    CHECK.due("SAME(1, 1)", p.stands(6), 0);
    CHECK.due("SAME(0, 1)", p.stands(8), 1);
    CHECK.due("two rounds", p.told(1), 2);
  }

  /** One value of a is broken by b and c together, which no dilemma of another variable sees. */
  private static void dilemmasThatBreakOnce() {
    DilemmaProver p = with("(a|b)&(a|c)&(a|~b|~c)");
    p.join(2 * p.count(0) - 2, 0);
    CHECK.due("the branch of true comes first", p.saturate(1, 2), -6);
    CHECK.due("and is not broken", p.told(3), 0);
    CHECK.due("the branch of false is next", p.saturate(1, 3), -6);
    CHECK.due("and is broken", p.told(3), 1);
    CHECK.due("a is free still", p.stands(2), 2);
    CHECK.due("to the end", p.saturate(1, 5000), 1);
    CHECK.due("the branch of true is kept", p.stands(2), 0);
    p = with("(~a|b)&(~a|c)&(~a|~b|~c)");
    p.join(2 * p.count(0) - 2, 0);
    CHECK.due("the branch of true comes first", p.saturate(1, 2), -6);
    CHECK.due("and is broken", p.told(3), 1);
    CHECK.due("to the end", p.saturate(1, 5000), 1);
    CHECK.due("the branch of false is kept", p.stands(2), 1);
  }

  private static void dilemmas() {
    // (a|b)&(a|~b) is true only if a is: depth 0 does not see it, a dilemma does.
    DilemmaProver p = with("(a|b)&(a|~b)");
    p.join(10, 0);
    CHECK.due("depth 0", p.saturate(0, 9), 1);
    CHECK.due("a is free", p.stands(2), 2);
    CHECK.due("depth 1", p.saturate(1, 99), 1);
    CHECK.due("a is true", p.stands(2), 0);
    CHECK.due("b is free", p.stands(4), 4);
    CHECK.due("one branch broke", p.told(3), 1);
    // (a&b)|(a&~b) is a: both branches of b say so, and neither breaks.
    p = with("(a&b)|(a&~b)");
    CHECK.due("depth 1", p.saturate(1, 999), 1);
    CHECK.due("what both agree on is kept", p.stands(11), 2);
    CHECK.due("no branch broke", p.told(3), 0);
    // v or not, a is true; but a false tells nothing of v: only the dilemma of v sees it.
    p = with("a");
    CHECK.due("v is the second", Check.readText(p, "v"), 4);
    Check.readText(p, "(a|~p|~q)&(a|~r|~s)&(~v|p)&(~v|q)&(v|r)&(v|s)");
    p.join(2 * p.count(0) - 2, 0);
    CHECK.due("depth 1", p.saturate(1, 999), 1);
    CHECK.due("a is true", p.stands(2), 0);
    CHECK.due("no branch broke", p.told(3), 0);
    // All four of two: any value of either breaks.
    p = with("((a|b)&(a|~b))&((~a|b)&(~a|~b))");
    p.join(2 * p.count(0) - 2, 0);
    CHECK.due("depth 0 sees none", p.saturate(0, 9), 1);
    CHECK.due("depth 1 sees it", p.saturate(1, 99), 0);
    CHECK.due("both broke", p.told(3), 2);
    CHECK.due("one pass, and it ended", p.told(2), 1);
    CHECK.due("no step behind it", p.told(0), 3);
    CHECK.due("a contradiction it is", p.stands(0), -3);
  }

  private static void likeThePlainProver(String text) {
    DilemmaProver p = with(text);
    PlainProver plain = new PlainProver();
    for (int i = 0; i < text.length(); i++) {
      plain.feed(text.charAt(i), 1);
    }
    int l = plain.read();
    for (int depth = 0; depth <= 3; depth++) {
      String title = text + " to " + depth;
      p.forget();
      plain.forget();
      CHECK.due(title + ": join", p.join(l, 0), plain.join(l, 0));
      CHECK.due(title + ": saturate", p.saturate(depth, 5000), plain.saturate(depth, 5000));
      for (int what = 0; what < 4; what++) {
        CHECK.due(title + ": told(" + what + ")", p.told(what), plain.told(what));
      }
      for (int literal = 0; literal < 2 * p.count(0); literal++) {
        CHECK.due(title + ": stands(" + literal + ")", p.stands(literal), plain.stands(literal));
      }
    }
  }
}
