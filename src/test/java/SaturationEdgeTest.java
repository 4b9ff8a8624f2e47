/** The edges of rounds, passes, dilemmas and steps, with numbers that were counted by hand. */
public final class SaturationEdgeTest {
  private static final Check CHECK = new Check("SaturationEdgeTest");

  public static void main(String[] args) {
    gatesOfOneLiteral();
    gatesOfConstants();
    rulesThatDisagree();
    roundByWhatWasThere();
    roundsAsLongAsFewer();
    roundsEndInAContradiction();
    noPassAtDepth0();
    passesAsLongAsFewer();
    passGoesThroughTheFree();
    passGoesToTheLast();
    trueFirst();
    bothBroken();
    oneBroken();
    noneBroken();
    relationsOfBoth();
    stepsWithinOthers();
    deeperIsMore();
    depthsOfFreeInputs();
    asDeepAsCanBe();
    CHECK.end();
  }

  private static DilemmaProver holding(String text) {
    DilemmaProver p = new DilemmaProver();
    int l = Check.readText(p, text);
    CHECK.holds(text + " is read", l >= 0);
    p.join(l, 0);
    return p;
  }

  private static void toldIs(DilemmaProver p, int steps, int rounds, int passes, int broken) {
    int[] due = {steps, rounds, passes, broken};
    for (int what = 0; what < 4; what++) {
      CHECK.due("told(" + what + ")", p.told(what), due[what]);
    }
  }

  private static void gatesOfOneLiteral() {
    CHECK.sentence("A GATE has two LITERALS (they may be one): what the RULES tell of it");
    DilemmaProver p = Check.having("a");
    p.gate(2, 2, 2);
    p.gate(2, 2, 3);
    p.gate(3, 2, 2);
    p.gate(3, 3, 2);
    CHECK.due("saturate", p.saturate(0, 1), 1);
    CHECK.due("AND(a, a) is a", p.stands(4), 2);
    CHECK.due("AND(a, -a) is false", p.stands(6), 1);
    CHECK.due("SAME(a, a) is true", p.stands(8), 0);
    CHECK.due("SAME(a, -a) is false", p.stands(10), 1);
    toldIs(p, 1, 2, 0, 0);
  }

  private static void gatesOfConstants() {
    CHECK.sentence("a = 0, a = 1 (of TRUE itself): what the RULES tell");
    for (int a = 0; a < 2; a++) {
      for (int b = 0; b < 2; b++) {
        DilemmaProver p = new DilemmaProver();
        int and = p.gate(2, a, b);
        int same = p.gate(3, a, b);
        CHECK.due("saturate", p.saturate(0, 1), 1);
        CHECK.due("AND(" + a + ", " + b + ")", p.stands(and), a == 0 && b == 0 ? 0 : 1);
        CHECK.due("SAME(" + a + ", " + b + ")", p.stands(same), a == b ? 0 : 1);
        toldIs(p, 1, 2, 0, 0);
      }
    }
  }

  private static void rulesThatDisagree() {
    CHECK.sentence("RULES: what they tell together may be a CONTRADICTION");
    int[][] joins = {{6, 0, 2, 1}, {6, 0, 4, 1}, {6, 3, 2, 1}, {6, 5, 4, 1}, {6, 0, 2, 5}};
    for (int[] pairs : joins) {
      DilemmaProver p = Check.having("a&b");
      p.join(pairs[0], pairs[1]);
      p.join(pairs[2], pairs[3]);
      CHECK.due("AND with " + java.util.Arrays.toString(pairs), p.saturate(0, 1), 0);
      toldIs(p, 1, 1, 0, 0);
    }
    DilemmaProver p = Check.having("a<->b");
    p.join(2, 4);
    p.join(6, 1);
    CHECK.due("SAME of one class is not", p.saturate(0, 1), 0);
    toldIs(p, 1, 1, 0, 0);
  }

  private static void roundByWhatWasThere() {
    CHECK.sentence("A ROUND: all .. by the EQUIVALENCE as it is when the ROUND begins, is JOINED");
    // a false goes up a chain of three gates: one a round, though they are met in that order.
    DilemmaProver p = Check.having("a&b&c&d");
    p.join(2, 1);
    p.saturate(0, 1);
    toldIs(p, 1, 4, 0, 0);
    // All gates are asked in one round: two that do not touch each other take no longer than one.
    DilemmaProver q = Check.having("a&b");
    Check.readText(q, "c&d");
    q.join(2, 1);
    q.join(8, 1);
    q.saturate(0, 1);
    CHECK.due("a&b is false", q.stands(6), 1);
    CHECK.due("c&d is false", q.stands(12), 1);
    toldIs(q, 1, 2, 0, 0);
  }

  private static void roundsAsLongAsFewer() {
    CHECK.sentence("SATURATED to depth 0: ROUNDS, as long as .. the latest one made CLASSES fewer");
    DilemmaProver p = new DilemmaProver();
    p.saturate(0, 1);
    toldIs(p, 1, 1, 0, 0);
    p = Check.having("a&b&c");
    p.saturate(0, 1);
    toldIs(p, 1, 1, 0, 0);
    p.join(10, 0);
    p.saturate(0, 1);
    toldIs(p, 1, 3, 0, 0);
    CHECK.due("all are true", p.count(3), 2);
    p.saturate(0, 1);
    toldIs(p, 1, 1, 0, 0);
    // A chain as long as there can be: a round for each gate, and one that finds no more.
    DilemmaProver longest = Check.having("a&b");
    for (int v = 4; v < 120; v++) {
      longest.gate(2, 4, 2 * v - 2);
    }
    longest.join(2, 1);
    CHECK.due("up the chain", longest.saturate(0, 1), 1);
    toldIs(longest, 1, 118, 0, 0);
    CHECK.due("only b is free", longest.count(3), 4);
    longest.forget();
    longest.join(238, 0);
    CHECK.due("down the chain", longest.saturate(0, 1), 1);
    // Round 1: b is true. Round 2: so each gate is the one below it.
    toldIs(longest, 1, 3, 0, 0);
    CHECK.due("all are true", longest.count(3), 2);
  }

  private static void roundsEndInAContradiction() {
    CHECK.sentence("ROUNDS, as long as there is no CONTRADICTION");
    DilemmaProver p = Check.having("a&b&~a");
    p.join(p.count(0) * 2 - 2, 0);
    CHECK.due("a&b is true, and -a", p.saturate(0, 1), 0);
    // Round 1: a&b and -a are true. Round 2: a is true, too.
    toldIs(p, 1, 2, 0, 0);
    DilemmaProver q = new DilemmaProver();
    CHECK.due("prove true: it is one before the first round", q.prove(0, 0, 1), 0);
    toldIs(q, 1, 0, 0, 0);
  }

  private static void noPassAtDepth0() {
    CHECK.sentence("SATURATED to a depth k above 0: .. then PASSES");
    DilemmaProver p = Check.having("a");
    p.saturate(0, 9);
    toldIs(p, 1, 1, 0, 0);
    p.saturate(1, 9);
    toldIs(p, 3, 3, 1, 0);
    DilemmaProver q = new DilemmaProver();
    q.saturate(1, 9);
    toldIs(q, 1, 1, 1, 0);
    q.saturate(4, 9);
    toldIs(q, 1, 1, 1, 0);
    // A contradiction at depth 0: no pass begins.
    DilemmaProver r = holding("a&~a");
    CHECK.due("a contradiction", r.saturate(4, 9), 0);
    toldIs(r, 1, 1, 0, 0);
  }

  private static void passesAsLongAsFewer() {
    CHECK.sentence("PASSES, as long as .. the latest one made CLASSES fewer, it being SATURATED to depth 0 behind each that did");
    // The dilemma of a breaks for false. Steps: 1, a 2, b 2; 1 behind the pass; b 2 again.
    DilemmaProver p = holding("(a|b)&(a|~b)");
    CHECK.due("saturate", p.saturate(1, 8), 1);
    toldIs(p, 8, 9, 2, 1);
    CHECK.due("a is true", p.stands(2), 0);
    CHECK.due("b is free", p.stands(4), 4);
    // Now there is nothing more to find: one pass, no step behind it.
    CHECK.due("saturate again", p.saturate(1, 3), 1);
    toldIs(p, 3, 3, 1, 0);
  }

  private static void passGoesThroughTheFree() {
    CHECK.sentence("the VARIABLES from 1 on are gone through; for each v that is then neither of the CLASS of 0 nor of that of 1");
    DilemmaProver p = Check.having("a");
    Check.readText(p, "b");
    Check.readText(p, "c");
    p.saturate(1, 99);
    toldIs(p, 7, 7, 1, 0);
    p.join(2, 0);
    p.saturate(1, 99);
    toldIs(p, 5, 5, 1, 0);
    p.join(4, 1);
    p.saturate(1, 99);
    toldIs(p, 3, 3, 1, 0);
    p.join(6, 4);
    p.saturate(1, 99);
    toldIs(p, 1, 1, 1, 0);
    p.forget();
    // One class, but each of its variables is gone through.
    p.join(2, 4);
    p.join(4, 7);
    p.saturate(1, 99);
    toldIs(p, 7, 7, 1, 0);
  }

  private static void passGoesToTheLast() {
    CHECK.sentence("the VARIABLES from 1 on are gone through (to the last that there is, and no further)");
    // All gates are AND(0, ..): true by rounds. The last variable alone is free, and gone through.
    DilemmaProver p = Check.filled("true", 119);
    Check.readText(p, "b");
    CHECK.due("variables", p.count(0), 120);
    CHECK.due("saturate", p.saturate(1, 3), 1);
    toldIs(p, 3, 4, 1, 0);
    CHECK.due("the last is free", p.stands(239), 239);
    CHECK.due("one step too few", p.saturate(1, 2), -6);
    // What was there before clear() is not gone through.
    p.clear();
    Check.readText(p, "x");
    CHECK.due("saturate behind clear()", p.saturate(1, 3), 1);
    toldIs(p, 3, 3, 1, 0);
    p.clear();
    CHECK.due("of TRUE alone", p.saturate(4, 1), 1);
    toldIs(p, 1, 1, 1, 0);
  }

  private static void trueFirst() {
    CHECK.sentence("a copy in which 2 v and 0 are JOINED .., then another one in which 2 v and 1 are");
    DilemmaProver p = holding("(~a|b)&(~a|~b)");
    CHECK.due("true alone", p.saturate(1, 2), -6);
    toldIs(p, 2, 3, 1, 1);
    CHECK.due("both are tried, though the first is broken", p.saturate(1, 3), -6);
    toldIs(p, 3, 4, 1, 1);
    DilemmaProver q = holding("(a|b)&(a|~b)");
    CHECK.due("true alone", q.saturate(1, 2), -6);
    toldIs(q, 2, 3, 1, 0);
    CHECK.due("then false", q.saturate(1, 3), -6);
    toldIs(q, 3, 4, 1, 1);
  }

  private static void bothBroken() {
    CHECK.sentence("If both come to a CONTRADICTION, there is one (and it ends)");
    DilemmaProver p = holding("((a|b)&(a|~b))&((~a|b)&(~a|~b))");
    CHECK.due("to depth 0 there is none", p.saturate(0, 1), 1);
    CHECK.due("to depth 1 there is", p.saturate(1, 3), 0);
    toldIs(p, 3, 3, 1, 2);
    CHECK.due("it stays", p.stands(0), -3);
    // Within another: c or d come first and are free, then a breaks for both of their values.
    DilemmaProver q = Check.having("c");
    q.join(Check.readText(q, "((a|b)&(a|~b))&((~a|b)&(~a|~b))"), 0);
    CHECK.due("to depth 2", q.saturate(2, 99), 0);
    CHECK.due("both branches of c, in each both of a", q.told(3), 6);
    CHECK.due("passes", q.told(2), 3);
    CHECK.due("steps", q.told(0), 7);
  }

  private static void oneBroken() {
    CHECK.sentence("if one does, the EQUIVALENCE is the other one");
    // With a, c comes from its copy: c is not gone through behind it. Steps: 1, a 2, b 2, 1, b 2.
    DilemmaProver own = holding("(a|b)&(a|~b)&(a->c)");
    CHECK.due("saturate", own.saturate(1, 8), 1);
    toldIs(own, 8, 11, 2, 1);
    DilemmaProver p = holding("(a|b)&(a|~b)&(a->c)&(~a->d)");
    CHECK.due("saturate", p.saturate(1, 99), 1);
    CHECK.due("a is true", p.stands(2), 0);
    CHECK.due("what a told in its copy is kept: c", p.stands(Check.readText(p, "c")), 0);
    int d = Check.readText(p, "d");
    CHECK.due("d is free", p.stands(d), d);
    DilemmaProver q = holding("(~a|b)&(~a|~b)&(a->c)&(~a->d)");
    CHECK.due("saturate", q.saturate(1, 99), 1);
    CHECK.due("a is false", q.stands(2), 1);
    CHECK.due("d", q.stands(Check.readText(q, "d")), 0);
  }

  private static void noneBroken() {
    CHECK.sentence("else all that are of one CLASS in both are JOINED");
    DilemmaProver p = Check.having("(v&p)|(~v&p)");
    int l = p.read();
    CHECK.due("to depth 0", p.saturate(0, 1), 1);
    CHECK.due("nothing is told", p.stands(l), l);
    CHECK.due("to depth 1", p.saturate(1, 999), 1);
    CHECK.due("it is p, whatever v is", p.stands(l), 4);
    CHECK.due("v is free", p.stands(2), 2);
    CHECK.due("none was broken", p.told(3), 0);
    DilemmaProver q = Check.having("a&b");
    CHECK.due("saturate", q.saturate(1, 999), 1);
    CHECK.due("what is so in one alone is not kept", q.count(3), 8);
  }

  private static void relationsOfBoth() {
    CHECK.sentence("all that are of one CLASS in both (turned, and of constants, too)");
    DilemmaProver p = Check.having("~((v&p)|(~v&p))");
    int l = p.read();
    p.saturate(1, 999);
    CHECK.due("turned", p.stands(l), 5);
    // Two ways to say "p if v, else q": only the dilemma of v sees that they are one.
    DilemmaProver two = Check.having("(v&p)|(~v&q)");
    int one = two.read();
    int other = Check.readText(two, "(v->p)&(~v->q)");
    CHECK.due("to depth 0", two.saturate(0, 1), 1);
    CHECK.due("they are two", two.stands(other), other);
    CHECK.due("to depth 1", two.saturate(1, 999), 1);
    CHECK.due("they are one, of no known value", two.stands(other), two.stands(one));
    CHECK.holds("no known value (" + two.stands(one) + ")", two.stands(one) > 1);
    CHECK.due("and turned", two.stands(other ^ 1), two.stands(one ^ 1));
    // v or not, a is true; a false alone tells nothing of v.
    DilemmaProver q = Check.having("a");
    Check.readText(q, "v");
    q.join(Check.readText(q, "(a|~p|~q)&(a|~r|~s)&(~v|p)&(~v|q)&(v|r)&(v|s)"), 0);
    q.saturate(1, 999);
    CHECK.due("a is true", q.stands(2), 0);
    CHECK.due("v is free", q.stands(4), 4);
    CHECK.due("none was broken", q.told(3), 0);
  }

  private static void stepsWithinOthers() {
    CHECK.sentence("STEPS are SATURATIONS to depth 0 that begin (within others, too)");
    DilemmaProver p = Check.having("a");
    Check.readText(p, "b");
    // 1, then for each value of each: 1, then for each value of the other: 1.
    p.saturate(2, 13);
    toldIs(p, 13, 13, 5, 0);
    CHECK.due("one too few", p.saturate(2, 12), -6);
    toldIs(p, 12, 12, 5, 0);
    CHECK.due("none of the branches of b", p.saturate(2, 7), -6);
    toldIs(p, 7, 7, 3, 0);
    p.saturate(4, 13);
    toldIs(p, 13, 13, 13, 0);
  }

  private static void deeperIsMore() {
    CHECK.sentence("SATURATED to depth k - 1");
    DilemmaProver p = Check.having("((a<->b)<->c)<->(a<->(b<->c))");
    int l = p.read();
    p.join(l, 1);
    CHECK.due("depth 1 is not enough", p.saturate(1, 5000), 1);
    CHECK.due("depth 2 is", p.saturate(2, 5000), 0);
    DilemmaProver q = Check.having("(a^b^c^d^e)<->(e^c^a^d^b)");
    q.join(q.read(), 1);
    CHECK.due("depth 2 is not enough", q.saturate(2, 5000), 1);
    CHECK.due("depth 3 is", q.saturate(3, 5000), 0);
  }

  private static void depthsOfFreeInputs() {
    CHECK.sentence("is SATURATED to depth k - 1, then another one (as deep as 4)");
    DilemmaProver p = Check.having("a");
    for (String name : new String[] {"b", "c", "d", "e"}) {
      Check.readText(p, name);
    }
    // With n free and depth k: S(n, k) = 1 + 2 n S(n - 1, k - 1) steps, and S(n, 0) = 1;
    // P(n, k) = 1 + 2 n P(n - 1, k - 1) passes, and P(n, 0) = 0. No round finds anything.
    int[][] due = {{1, 0}, {11, 1}, {91, 11}, {571, 91}, {2491, 571}};
    for (int depth = 0; depth <= 4; depth++) {
      int steps = due[depth][0];
      CHECK.due("depth " + depth + " with one step too few", p.saturate(depth, steps - 1), -6);
      CHECK.due("depth " + depth + " with enough", p.saturate(depth, steps), 1);
      toldIs(p, steps, steps, due[depth][1], 0);
    }
    CHECK.due("nothing was joined", p.count(3), 12);
  }

  private static void asDeepAsCanBe() {
    CHECK.sentence("SATURATED to depth 4: a CONTRADICTION that is met when four values are tried");
    DilemmaProver p = Check.having("a");
    for (String name : new String[] {"b", "c", "d", "e"}) {
      Check.readText(p, name);
    }
    // All 32 clauses of five inputs: with four of them known, two clauses want both values of e.
    StringBuilder all = new StringBuilder("true");
    for (int n = 0; n < 32; n++) {
      all.append("&(");
      for (int i = 0; i < 5; i++) {
        all.append(i == 0 ? "" : "|").append((n >> (4 - i) & 1) == 0 ? "" : "~").append("abcde".charAt(i));
      }
      all.append(")");
    }
    int l = Check.readText(p, all.toString());
    CHECK.due("no assignment makes it true", p.alike(l, 1), 1);
    p.join(l, 0);
    CHECK.due("one step too few", p.saturate(4, 30), -6);
    CHECK.due("depth 4", p.saturate(4, 31), 0);
    // 1, 2 of a, 4 of b, 8 of c and 16 of d, all branches broken; passes wherever depth is left.
    CHECK.due("steps", p.told(0), 31);
    CHECK.due("passes", p.told(2), 15);
    CHECK.due("broken branches", p.told(3), 30);
    CHECK.due("it is kept", p.count(3), -3);
    for (int depth = 0; depth < 4; depth++) {
      p.forget();
      p.join(l, 0);
      CHECK.holds("31 steps to depth " + depth + " find none", p.saturate(depth, 31) != 0);
    }
  }
}
