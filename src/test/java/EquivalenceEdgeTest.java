/** The edges of promises 10 to 15: forget, join, stands, saturate, prove, told. */
public final class EquivalenceEdgeTest {
  private static final Check CHECK = new Check("EquivalenceEdgeTest");
  private static final int LEAST = Integer.MIN_VALUE;
  private static final int MOST = Integer.MAX_VALUE;
  private static final int[] FAR = {LEAST, LEAST + 1, -65536, -2, -1, 65536, 1 << 30, MOST - 1, MOST};

  /** Depth 1 is needed: any value of a or b breaks. */
  private static final String ALL_FOUR = "((a|b)&(a|~b))&((~a|b)&(~a|~b))";

  /** Depth 1 proves it, with more than one pass. */
  private static final String MAJORITY = "(a&b|a&c|b&c)<->((a|b)&(a|c)&(b|c))";

  public static void main(String[] args) {
    atFirstEachIsAlone();
    newVariableIsAlone();
    turnedOnesToo();
    leastStands();
    contradictions();
    forgetCounts();
    forgetInAContradiction();
    joinAnswers();
    joinFirstAndLast();
    joinNone();
    joinInAContradiction();
    standsFirstAndLast();
    standsNone();
    standsInAContradiction();
    saturateAnswers();
    saturateToLeastAndGreatestDepth();
    saturateOutside();
    saturateInAContradiction();
    saturateSpent();
    greatestSteps();
    proveFirstDepth();
    proveGoesOn();
    proveTouchesNothing();
    proveNone();
    proveOutside();
    proveUnproved();
    proveSpent();
    toldBeforeAny();
    toldBehindRefusals();
    toldBehindUnprovedAndSpent();
    toldOfTheLatest();
    toldOutside();
    CHECK.end();
  }

  private static int last(DilemmaProver p) {
    return 2 * p.count(0) - 1;
  }

  private static String standing(DilemmaProver p) {
    StringBuilder all = new StringBuilder();
    for (int l = 0; l <= last(p); l++) {
      all.append(p.stands(l)).append(" ");
    }
    return all.toString();
  }

  private static void toldIs(DilemmaProver p, int steps, int rounds, int passes, int broken) {
    int[] due = {steps, rounds, passes, broken};
    for (int what = 0; what < 4; what++) {
      CHECK.due("told(" + what + ")", p.told(what), due[what]);
    }
  }

  private static void atFirstEachIsAlone() {
    CHECK.sentence("at first each is alone");
    DilemmaProver p = Check.filled("a&b", 120);
    for (int l = 0; l < 240; l++) {
      CHECK.due("stands(" + l + ")", p.stands(l), l);
    }
    CHECK.due("classes", p.count(3), 240);
  }

  private static void newVariableIsAlone() {
    CHECK.sentence("A new VARIABLE is alone");
    DilemmaProver p = Check.having("a");
    p.join(2, 1);
    p.gate(2, 2, 0);
    CHECK.due("a gate of joined ones", p.stands(4), 4);
    CHECK.due("it turned", p.stands(5), 5);
    CHECK.due("classes", p.count(3), 4);
    Check.readText(p, "b");
    CHECK.due("an input", p.stands(6), 6);
    CHECK.due("what was joined stays so", p.stands(2), 1);
    p.join(4, 6);
    p.forget();
    p.join(0, 1);
    Check.readText(p, "c");
    CHECK.due("in a contradiction nothing is told", p.stands(8), -3);
    p.forget();
    CHECK.due("then it is alone", p.stands(8), 8);
    p.join(8, 0);
    p.clear();
    Check.readText(p, "(a&b)<->c");
    CHECK.due("a number that was joined before clear()", p.stands(8), 8);
    DilemmaProver full = Check.filled("a", 119);
    for (int v = 1; v < 119; v++) {
      full.join(2 * v, 0);
    }
    full.gate(3, 2, 3);
    CHECK.due("the last that there can be", full.stands(238), 238);
    CHECK.due("classes", full.count(3), 4);
  }

  private static void turnedOnesToo() {
    CHECK.sentence("JOINING a and b: a, b are of one CLASS then, - a and - b, too");
    DilemmaProver p = Check.having("a&b");
    CHECK.due("join(2, 5)", p.join(2, 5), 1);
    CHECK.due("stands(5)", p.stands(5), 2);
    CHECK.due("stands(4)", p.stands(4), 3);
    CHECK.due("they are one", p.join(4, 3), 0);
    CHECK.due("classes, counted of literals", p.count(3), 6);
  }

  private static void leastStands() {
    CHECK.sentence("A LITERAL stands for its CLASS if it is the least in it");
    DilemmaProver p = Check.having("a&b&c");
    p.join(10, 9);
    p.join(9, 5);
    CHECK.due("of 5, 9, 10", p.stands(10), 5);
    CHECK.due("of 4, 8, 11", p.stands(8), 4);
    p.join(4, 2);
    CHECK.due("of 2, 4, 8, 11", p.stands(11), 2);
    CHECK.due("of 3, 5, 9, 10", p.stands(9), 3);
    p.join(11, 1);
    CHECK.due("of 1, 2, ..", p.stands(8), 1);
    CHECK.due("of 0, 3, ..", p.stands(3), 0);
    CHECK.due("of 1", p.stands(1), 1);
    CHECK.due("6 is alone", p.stands(6), 6);
  }

  private static void contradictions() {
    CHECK.sentence("CONTRADICTION: a LITERAL and its turned one are of one CLASS");
    for (int l = 0; l < 8; l++) {
      DilemmaProver p = Check.having("a&b");
      CHECK.due("join(" + l + ", turned)", p.join(l, l ^ 1), 2);
      CHECK.due("count(3)", p.count(3), -3);
    }
    DilemmaProver p = Check.having("a&b");
    p.join(2, 4);
    CHECK.due("by way of 4", p.join(3, 4), 2);
    p.forget();
    p.join(2, 0);
    p.join(4, 1);
    CHECK.due("not yet", p.count(3), 4);
    CHECK.due("true and false", p.join(2, 4), 2);
    p.forget();
    p.join(2, 5);
    p.join(4, 6);
    CHECK.due("by way of two", p.join(6, 2), 2);
    CHECK.due("all are, so to say", p.stands(0), -3);
  }

  private static void forgetCounts() {
    CHECK.sentence("forget: Each LITERAL is alone again: how many CLASSES there were");
    CHECK.due("a new object", new DilemmaProver().forget(), 2);
    DilemmaProver p = Check.filled("a", 120);
    CHECK.due("all alone", p.forget(), 240);
    for (int v = 1; v < 120; v++) {
      p.join(2 * v, v % 2);
    }
    CHECK.due("all joined", p.forget(), 2);
    CHECK.due("alone again", p.forget(), 240);
    CHECK.due("the last", p.stands(239), 239);
    DilemmaProver q = Check.having("a&b");
    q.join(2, 4);
    q.saturate(0, 9);
    CHECK.due("behind saturate()", q.forget(), 4);
    CHECK.due("stands(6)", q.stands(6), 6);
    CHECK.due("the variables stay", q.count(0), 4);
    CHECK.due("what was told stays", q.told(0), 1);
    CHECK.due("the text stays", q.read(), 6);
  }

  private static void forgetInAContradiction() {
    CHECK.sentence("forget: -3 in a CONTRADICTION (it is gone, too)");
    DilemmaProver p = Check.having("a&b");
    p.join(2, 4);
    p.join(2, 5);
    CHECK.due("forget()", p.forget(), -3);
    CHECK.due("it is gone", p.count(3), 8);
    CHECK.due("each is alone", standing(p), "0 1 2 3 4 5 6 7 ");
    CHECK.due("forget() again", p.forget(), 8);
    DilemmaProver q = Check.having("a&~a");
    q.join(4, 0);
    CHECK.due("by saturate()", q.saturate(0, 1), 0);
    CHECK.due("forget()", q.forget(), -3);
    CHECK.due("it is gone", q.forget(), 6);
  }

  private static void joinAnswers() {
    CHECK.sentence("join: Two LITERALS are JOINED: 1, 0 if they were of one CLASS; 2 it is a CONTRADICTION now");
    DilemmaProver p = Check.having("a&b");
    CHECK.due("itself", p.join(4, 4), 0);
    CHECK.due("two", p.join(4, 6), 1);
    CHECK.due("again", p.join(6, 4), 0);
    CHECK.due("turned", p.join(7, 5), 0);
    CHECK.due("a third", p.join(6, 2), 1);
    CHECK.due("by way of it", p.join(2, 4), 0);
    CHECK.due("classes", p.count(3), 4);
    CHECK.due("with its turned one", p.join(2, 5), 2);
  }

  private static void joinFirstAndLast() {
    CHECK.sentence("join: Two LITERALS are JOINED (the first and the last)");
    DilemmaProver p = Check.filled("a", 120);
    CHECK.due("join(0, 239)", p.join(0, 239), 1);
    CHECK.due("stands(239)", p.stands(239), 0);
    CHECK.due("stands(238)", p.stands(238), 1);
    CHECK.due("join(238, 1)", p.join(238, 1), 0);
    CHECK.due("join(239, 1)", p.join(239, 1), 2);
    p.forget();
    CHECK.due("join(239, 239)", p.join(239, 239), 0);
    CHECK.due("join(239, 237)", p.join(239, 237), 1);
    CHECK.due("stands(238)", p.stands(238), 236);
    CHECK.due("join(239, 238)", p.join(239, 238), 2);
    CHECK.due("a new object: join(0, 0)", new DilemmaProver().join(0, 0), 0);
    CHECK.due("a new object: join(1, 1)", new DilemmaProver().join(1, 1), 0);
    CHECK.due("a new object: join(0, 1)", new DilemmaProver().join(0, 1), 2);
  }

  private static void joinNone() {
    CHECK.sentence("join: -1 there is no a, or b");
    DilemmaProver p = Check.having("a&b");
    CHECK.due("no a", p.join(8, 0), -1);
    CHECK.due("no b", p.join(0, 8), -1);
    CHECK.due("neither", p.join(8, 8), -1);
    for (int l : FAR) {
      CHECK.due("join(" + l + ", 0)", p.join(l, 0), -1);
      CHECK.due("join(7, " + l + ")", p.join(7, l), -1);
    }
    CHECK.due("nothing was joined", p.count(3), 8);
    DilemmaProver full = Check.filled("a", 120);
    CHECK.due("full: join(240, 0)", full.join(240, 0), -1);
    CHECK.due("full: join(0, 240)", full.join(0, 240), -1);
  }

  private static void joinInAContradiction() {
    CHECK.sentence("join: -3 a CONTRADICTION");
    DilemmaProver p = Check.having("a&b");
    p.join(0, 1);
    for (int l = 0; l < 8; l++) {
      CHECK.due("join(" + l + ", 2)", p.join(l, 2), -3);
      CHECK.due("join(" + l + ", itself)", p.join(l, l), -3);
    }
    CHECK.due("-1 is ahead", p.join(0, 8), -1);
    CHECK.due("-1 is ahead", p.join(-1, 0), -1);
    p.forget();
    CHECK.due("no join was kept for later", p.count(3), 8);
  }

  private static void standsFirstAndLast() {
    CHECK.sentence("stands: The LITERAL that stands for the CLASS of one");
    DilemmaProver p = Check.filled("a", 120);
    CHECK.due("stands(0)", p.stands(0), 0);
    CHECK.due("stands(1)", p.stands(1), 1);
    CHECK.due("stands(239)", p.stands(239), 239);
    p.join(239, 2);
    CHECK.due("stands(239)", p.stands(239), 2);
    CHECK.due("stands(238)", p.stands(238), 3);
    p.join(238, 0);
    CHECK.due("stands(239)", p.stands(239), 1);
    CHECK.due("stands(3)", p.stands(3), 0);
    CHECK.due("stands(0)", p.stands(0), 0);
  }

  private static void standsNone() {
    CHECK.sentence("stands: -1 there is none");
    CHECK.due("a new object: stands(1)", new DilemmaProver().stands(1), 1);
    CHECK.due("a new object: stands(2)", new DilemmaProver().stands(2), -1);
    DilemmaProver p = Check.having("a&b");
    CHECK.due("the last", p.stands(7), 7);
    CHECK.due("beside it", p.stands(8), -1);
    for (int l : FAR) {
      CHECK.due("stands(" + l + ")", p.stands(l), -1);
    }
    DilemmaProver full = Check.filled("a", 120);
    CHECK.due("full: stands(240)", full.stands(240), -1);
  }

  private static void standsInAContradiction() {
    CHECK.sentence("stands: -3 a CONTRADICTION");
    DilemmaProver p = Check.having("a&b");
    p.join(6, 7);
    for (int l = 0; l < 8; l++) {
      CHECK.due("stands(" + l + ")", p.stands(l), -3);
    }
    CHECK.due("-1 is ahead", p.stands(8), -1);
    CHECK.due("-1 is ahead", p.stands(-1), -1);
  }

  private static void saturateAnswers() {
    CHECK.sentence("saturate: The EQUIVALENCE is SATURATED to a depth, with so many STEPS at most: 1, 0 a CONTRADICTION");
    DilemmaProver p = new DilemmaProver();
    CHECK.due("without gates", p.saturate(0, 1), 1);
    toldIs(p, 1, 1, 0, 0);
    p = Check.having("a&b");
    p.join(6, 0);
    CHECK.due("with one", p.saturate(0, 1), 1);
    toldIs(p, 1, 2, 0, 0);
    CHECK.due("all are true", p.count(3), 2);
    p = Check.having("a&~a");
    p.join(4, 0);
    CHECK.due("a contradiction", p.saturate(0, 1), 0);
    toldIs(p, 1, 1, 0, 0);
    CHECK.due("it stays", p.count(3), -3);
    p = Check.having(ALL_FOUR);
    p.join(last(p), 1);
    CHECK.due("by dilemmas", p.saturate(1, 3), 0);
    toldIs(p, 3, p.told(1), 1, 2);
    CHECK.due("it stays", p.count(3), -3);
  }

  private static void saturateToLeastAndGreatestDepth() {
    CHECK.sentence("saturate: SATURATED to a depth (0 .. 4)");
    // Two free inputs: each depth goes through both, and none finds anything.
    int[] steps = {1, 5, 13, 13, 13};
    int[] passes = {0, 1, 5, 13, 13};
    DilemmaProver p = Check.having("a");
    Check.readText(p, "b");
    for (int depth = 0; depth <= 4; depth++) {
      CHECK.due("to " + depth, p.saturate(depth, 5000), 1);
      CHECK.due("to " + depth + ": steps", p.told(0), steps[depth]);
      CHECK.due("to " + depth + ": a round each", p.told(1), steps[depth]);
      CHECK.due("to " + depth + ": passes", p.told(2), passes[depth]);
    }
    CHECK.due("nothing is found", p.count(3), 6);
  }

  /** Free inputs without gates: one step, and a branch for each value of each, to one depth less. */
  private static int freeSteps(int inputs, int depth) {
    return 1 + (depth == 0 ? 0 : 2 * inputs * freeSteps(inputs - 1, depth - 1));
  }

  private static int freePasses(int inputs, int depth) {
    return depth == 0 ? 0 : 1 + 2 * inputs * freePasses(inputs - 1, depth - 1);
  }

  private static void saturateOutside() {
    CHECK.sentence("saturate: -2 the depth is not 0 .. 4, or steps not 0 .. 5000");
    DilemmaProver p = Check.having("a&b");
    p.join(6, 0);
    CHECK.due("depth 5", p.saturate(5, 10), -2);
    CHECK.due("steps 5001", p.saturate(0, 5001), -2);
    CHECK.due("both", p.saturate(5, 5001), -2);
    CHECK.due("depth 5, no steps", p.saturate(5, 0), -2);
    for (int far : FAR) {
      CHECK.due("depth " + far, p.saturate(far, 10), -2);
      CHECK.due("steps " + far, p.saturate(0, far), -2);
    }
    CHECK.due("nothing was done", p.count(3), 6);
    CHECK.due("steps 0 are not outside", p.saturate(0, 0), -6);
    CHECK.due("steps 5000 are not outside", p.saturate(0, 5000), 1);
    CHECK.due("depth 4 is not outside", p.saturate(4, 5000), 1);
  }

  private static void saturateInAContradiction() {
    CHECK.sentence("saturate: -3 a CONTRADICTION");
    DilemmaProver p = Check.having("a&b");
    p.join(0, 1);
    CHECK.due("depth 0", p.saturate(0, 10), -3);
    CHECK.due("depth 4", p.saturate(4, 5000), -3);
    CHECK.due("no steps", p.saturate(0, 0), -3);
    CHECK.due("-2 is ahead", p.saturate(5, 10), -2);
    CHECK.due("-2 is ahead", p.saturate(0, -1), -2);
    CHECK.due("it stays", p.count(3), -3);
  }

  private static void saturateSpent() {
    CHECK.sentence("saturate: -6 (the EQUIVALENCE stays as it was); SPENT when one more than may be would begin");
    DilemmaProver p = Check.having("(a|b)&(a|~b)");
    int whole = last(p) - 1;
    p.join(whole, 0);
    String before = standing(p);
    CHECK.due("enough", p.saturate(1, 5000), 1);
    int need = p.told(0);
    String after = standing(p);
    CHECK.holds("it makes a difference", !after.equals(before));
    for (int steps = 0; steps < need; steps++) {
      p.forget();
      p.join(whole, 0);
      CHECK.due("steps " + steps, p.saturate(1, steps), -6);
      CHECK.due("so many began", p.told(0), steps);
      if (steps == 0 || steps == 1 || steps == need - 1) {
        CHECK.due("it stays as it was", standing(p), before);
      }
    }
    CHECK.due("the last step may begin", p.saturate(1, need), 1);
    CHECK.due("the same end", standing(p), after);
    p = Check.having(ALL_FOUR);
    p.join(last(p), 1);
    CHECK.due("a contradiction would be found with 3", p.saturate(1, 2), -6);
    CHECK.due("a branch was broken", p.told(3), 1);
    CHECK.due("there is none", p.count(3), 2 * p.count(0) - 2);
  }

  private static void greatestSteps() {
    CHECK.sentence("steps .. 0 .. 5000");
    DilemmaProver p = Check.having(Check.names(14, "&"));
    CHECK.due("more than 5000 would be needed", p.saturate(3, 5000), -6);
    CHECK.due("5000 began", p.told(0), 5000);
    CHECK.due("it stays as it was", p.count(3), 2 * p.count(0));
    CHECK.due("prove: more than 5000", p.prove(last(p) - 1, 4, 5000), -6);
    CHECK.due("prove: 5000 began", p.told(0), 5000);
    CHECK.due("prove: 4999", p.prove(last(p) - 1, 4, 4999), -6);
    CHECK.due("prove: 4999 began", p.told(0), 4999);
  }

  private static void proveFirstDepth() {
    CHECK.sentence("prove: up to a depth .. the first depth at which it is a CONTRADICTION");
    String[] texts = {
      "a|~a", "~(" + ALL_FOUR + ")", "((a<->b)<->c)<->(a<->(b<->c))", "(a^b^c^d^e)<->(e^c^a^d^b)"
    };
    for (int depth = 0; depth < texts.length; depth++) {
      DilemmaProver p = new DilemmaProver();
      int l = Check.readText(p, texts[depth]);
      for (int most = 0; most <= 4; most++) {
        CHECK.due(texts[depth] + " to " + most, p.prove(l, most, 5000), most < depth ? -5 : depth);
      }
    }
    CHECK.due("true", new DilemmaProver().prove(0, 0, 1), 0);
    CHECK.due("true to 4", new DilemmaProver().prove(0, 4, 1), 0);
  }

  private static void proveGoesOn() {
    CHECK.sentence("prove: SATURATED to depth 0, then 1, .. up to a depth, going on from what it was");
    DilemmaProver p = Check.having("a");
    Check.readText(p, "b");
    // -5 of a: a is false, b is free. Each depth begins with a step of its own.
    int steps = 0;
    int passes = 0;
    for (int depth = 0; depth <= 4; depth++) {
      steps += freeSteps(1, depth);
      passes += freePasses(1, depth);
      CHECK.due("prove(2, " + depth + ")", p.prove(2, depth, 5000), -5);
      toldIs(p, steps, steps, passes, 0);
    }
    // What depth 0 found is not found again: the rounds of depth 1 are one less a gate.
    DilemmaProver q = Check.having("~(a&b&c&d)");
    CHECK.due("depth 0", q.prove(15, 0, 5000), -5);
    toldIs(q, 1, 4, 0, 0);
    CHECK.due("depth 1", q.prove(15, 1, 5000), -5);
    toldIs(q, 2, 5, 1, 0);
  }

  private static void proveTouchesNothing() {
    CHECK.sentence("prove: (The EQUIVALENCE that is told of is not touched.)");
    DilemmaProver p = Check.having("a|b");
    p.join(2, 0);
    String before = standing(p);
    CHECK.due("an equivalence in which each is alone", p.prove(7, 4, 5000), -5);
    CHECK.due("untouched by -5", standing(p), before);
    CHECK.due("proved", p.prove(0, 4, 5000), 0);
    CHECK.due("untouched by a proof", standing(p), before);
    CHECK.due("spent", p.prove(7, 4, 1), -6);
    CHECK.due("untouched by -6", standing(p), before);
    p.join(0, 1);
    CHECK.due("in a contradiction", p.prove(7, 4, 5000), -5);
    CHECK.due("and a proof", p.prove(0, 4, 5000), 0);
    CHECK.due("it stays", p.count(3), -3);
    p.forget();
    CHECK.due("a proof makes none", p.prove(0, 4, 5000), 0);
    CHECK.due("none", p.count(3), 8);
  }

  private static void proveNone() {
    CHECK.sentence("prove: -1 there is none");
    DilemmaProver p = Check.having("a|~a");
    CHECK.due("the last", p.prove(5, 0, 1), 0);
    CHECK.due("beside it", p.prove(6, 0, 1), -1);
    for (int l : FAR) {
      CHECK.due("prove(" + l + ")", p.prove(l, 0, 1), -1);
    }
    CHECK.due("-1 is ahead of -2", p.prove(6, 5, 1), -1);
    CHECK.due("-1 is ahead of -2", p.prove(-1, 0, 5001), -1);
    CHECK.due("-1 is ahead of -6", p.prove(6, 0, 0), -1);
    DilemmaProver full = Check.filled("a", 120);
    CHECK.due("full: the last", full.prove(239, 0, 1), -5);
    CHECK.due("full: AND(0, .. AND(0, 0))", full.prove(238, 0, 1), 0);
    CHECK.due("full: beside it", full.prove(240, 0, 1), -1);
  }

  private static void proveOutside() {
    CHECK.sentence("prove: -2 as for saturate()");
    DilemmaProver p = Check.having("a|~a");
    CHECK.due("depth 5", p.prove(5, 5, 10), -2);
    CHECK.due("steps 5001", p.prove(5, 0, 5001), -2);
    CHECK.due("depth 5, no steps", p.prove(5, 5, 0), -2);
    for (int far : FAR) {
      CHECK.due("depth " + far, p.prove(5, far, 10), -2);
      CHECK.due("steps " + far, p.prove(5, 0, far), -2);
    }
    CHECK.due("nothing was told", p.told(0), 0);
    CHECK.due("depth 0, steps 0", p.prove(5, 0, 0), -6);
    CHECK.due("depth 4, steps 5000", p.prove(5, 4, 5000), 0);
  }

  private static void proveUnproved() {
    CHECK.sentence("prove: -5 it was none at any");
    DilemmaProver p = Check.having("a->b");
    for (int depth = 0; depth <= 4; depth++) {
      CHECK.due("a->b to " + depth, p.prove(7, depth, 5000), -5);
      CHECK.due("~(a->b) to " + depth, p.prove(6, depth, 5000), -5);
      CHECK.due("false to " + depth, p.prove(1, depth, 5000), -5);
    }
    DilemmaProver q = Check.having("~(" + ALL_FOUR + ")");
    CHECK.due("not as deep as is needed", q.prove(last(q), 0, 5000), -5);
    CHECK.due("as deep", q.prove(last(q), 1, 5000), 1);
  }

  private static void proveSpent() {
    CHECK.sentence("prove: -6 (of all STEPS together)");
    DilemmaProver p = Check.having(MAJORITY);
    int l = last(p) - 1;
    CHECK.due("proved", p.prove(l, 1, 5000), 1);
    int need = p.told(0);
    CHECK.due("depth 0 takes one step", p.prove(l, 0, 1), -5);
    CHECK.due("that one is not there for depth 1", p.prove(l, 1, need - 1), -6);
    CHECK.due("so many began", p.told(0), need - 1);
    CHECK.due("the last step may begin", p.prove(l, 1, need), 1);
    CHECK.due("it is enough for a greater depth, too", p.prove(l, 4, need), 1);
    CHECK.due("none at all", p.prove(l, 4, 0), -6);
    CHECK.due("one", p.prove(l, 4, 1), -6);
    CHECK.due("true without steps", p.prove(0, 0, 0), -6);
    DilemmaProver q = Check.having("a->b");
    CHECK.due("unproved", q.prove(7, 2, 5000), -5);
    int all = q.told(0);
    CHECK.due("just enough to know", q.prove(7, 2, all), -5);
    CHECK.due("one too few", q.prove(7, 2, all - 1), -6);
  }

  private static void toldBeforeAny() {
    CHECK.sentence("told: 0 before any");
    toldIs(new DilemmaProver(), 0, 0, 0, 0);
    DilemmaProver p = Check.having("a&b");
    p.join(6, 0);
    p.forget();
    p.model(6);
    toldIs(p, 0, 0, 0, 0);
    p.saturate(5, 1);
    p.saturate(0, -1);
    p.prove(8, 0, 1);
    p.prove(0, -1, 1);
    p.join(0, 1);
    p.saturate(0, 1);
    toldIs(p, 0, 0, 0, 0);
  }

  /** A prover whose latest proof tells four numbers above 0, no two alike. */
  private static DilemmaProver teller() {
    DilemmaProver p = Check.having(MAJORITY);
    p.prove(last(p) - 1, 2, 5000);
    return p;
  }

  private static void toldBehindRefusals() {
    CHECK.sentence("told: Of the latest saturate() or prove() that was not refused by -1, -2, -3");
    DilemmaProver p = teller();
    int[] told = {p.told(0), p.told(1), p.told(2), p.told(3)};
    for (int what = 0; what < 4; what++) {
      CHECK.holds("there is something to tell", told[what] > 0);
    }
    CHECK.due("-1 of prove()", p.prove(last(p) + 1, 1, 10), -1);
    toldIs(p, told[0], told[1], told[2], told[3]);
    CHECK.due("-2 of prove()", p.prove(0, 5, 10), -2);
    toldIs(p, told[0], told[1], told[2], told[3]);
    CHECK.due("-2 of prove(), steps", p.prove(0, 0, 5001), -2);
    toldIs(p, told[0], told[1], told[2], told[3]);
    CHECK.due("-2 of saturate()", p.saturate(-1, 10), -2);
    toldIs(p, told[0], told[1], told[2], told[3]);
    CHECK.due("-2 of saturate(), steps", p.saturate(0, -1), -2);
    toldIs(p, told[0], told[1], told[2], told[3]);
    p.join(0, 1);
    CHECK.due("-3 of saturate()", p.saturate(0, 10), -3);
    toldIs(p, told[0], told[1], told[2], told[3]);
    p.forget();
    p.clear();
    toldIs(p, told[0], told[1], told[2], told[3]);
  }

  private static void toldBehindUnprovedAndSpent() {
    CHECK.sentence("told: Of the latest .. (behind -5 and -6)");
    DilemmaProver p = teller();
    CHECK.due("-5", p.prove(1, 0, 10), -5);
    toldIs(p, 1, 1, 0, 0);
    p = teller();
    CHECK.due("-6 of prove()", p.prove(1, 1, 1), -6);
    toldIs(p, 1, 1, 0, 0);
    p = teller();
    CHECK.due("-6 of prove(), no steps", p.prove(1, 1, 0), -6);
    toldIs(p, 0, 0, 0, 0);
    p = teller();
    CHECK.due("-6 of saturate(), no steps", p.saturate(2, 0), -6);
    toldIs(p, 0, 0, 0, 0);
    p = teller();
    CHECK.due("-6 of saturate(): the pass began, its first branch did not", p.saturate(1, 1), -6);
    toldIs(p, 1, 1, 1, 0);
    CHECK.due("-6 within another", p.saturate(2, 2), -6);
    toldIs(p, 2, p.told(1), 2, 0);
    DilemmaProver q = Check.having(ALL_FOUR);
    q.join(last(q), 1);
    CHECK.due("a branch that was broken before it was spent", q.saturate(1, 2), -6);
    CHECK.due("is told", q.told(3), 1);
  }

  private static void toldOfTheLatest() {
    CHECK.sentence("told: 0 STEPS that began, 1 ROUNDS, 2 PASSES that began likewise, 3 branches that came to a CONTRADICTION");
    DilemmaProver p = teller();
    p.prove(0, 4, 5000);
    toldIs(p, 1, 0, 0, 0);
    p.prove(1, 0, 5000);
    toldIs(p, 1, 1, 0, 0);
    p = teller();
    p.saturate(0, 1);
    toldIs(p, 1, 1, 0, 0);
    CHECK.due("asked again", p.told(0), 1);
    DilemmaProver q = Check.having(ALL_FOUR);
    q.join(last(q), 1);
    q.saturate(1, 5000);
    CHECK.due("both branches of the first dilemma", q.told(3), 2);
    CHECK.due("it ends with them: steps", q.told(0), 3);
    CHECK.due("passes", q.told(2), 1);
  }

  private static void toldOutside() {
    CHECK.sentence("told: -2 no such what");
    DilemmaProver p = teller();
    CHECK.due("told(4)", p.told(4), -2);
    CHECK.due("told(3)", p.told(3) >= 0 ? 1 : 0, 1);
    for (int what : FAR) {
      CHECK.due("told(" + what + ")", p.told(what), -2);
    }
  }
}
