/** The edges of promises 16 to 18: value, model, alike. */
public final class AssignmentEdgeTest {
  private static final Check CHECK = new Check("AssignmentEdgeTest");
  private static final int LEAST = Integer.MIN_VALUE;
  private static final int MOST = Integer.MAX_VALUE;
  private static final int[] FAR = {LEAST, LEAST + 1, -65536, -2, -1, 1 << 24, (1 << 24) + 1, 1 << 30, MOST - 1, MOST};

  public static void main(String[] args) {
    bitIOfN();
    gatesAreAsTold();
    valueLeastAndGreatest();
    valueNone();
    valueOutside();
    modelLeast();
    modelAtTheEdgesOfTheRange();
    modelWithoutInputs();
    modelNone();
    modelNoRoom();
    modelByNone();
    alikeByEach();
    alikeNone();
    alikeNoRoom();
    contradictionHasNoPart();
    CHECK.end();
  }

  private static void bitIOfN() {
    CHECK.sentence("ASSIGNMENT n gives INPUT i (the i-th that was made, from 0 on) bit i of n");
    DilemmaProver p = Check.having(Check.names(24, "&"));
    int all = (1 << 24) - 1;
    for (int i = 0; i < 24; i++) {
      int input = i == 0 ? 2 : 4 * i;
      CHECK.due("input " + i + " is which", p.variable(input / 2, 1), i);
      CHECK.due("input " + i + " for its bit", p.value(input, 1 << i), 1);
      CHECK.due("input " + i + " for all others", p.value(input, all ^ 1 << i), 0);
      CHECK.due("input " + i + " turned", p.value(input + 1, 1 << i), 0);
    }
    DilemmaProver q = Check.having("true&true");
    Check.readText(q, "y|x");
    CHECK.due("y was made first", q.value(4, 1), 1);
    CHECK.due("x behind it", q.value(6, 1), 0);
    CHECK.due("x", q.value(6, 2), 1);
    q.clear();
    Check.readText(q, "x|y");
    CHECK.due("x is made first behind clear()", q.value(2, 1), 1);
  }

  private static void gatesAreAsTold() {
    CHECK.sentence("GATES are then as told: AND (1 if both are), or SAME (1 if both are alike)");
    DilemmaProver p = Check.having("a&b");
    p.gate(3, 2, 4);
    p.gate(2, 0, 0);
    p.gate(2, 0, 1);
    p.gate(3, 1, 1);
    p.gate(3, 0, 1);
    p.gate(2, 2, 3);
    int[] and = {0, 0, 0, 1};
    int[] same = {1, 0, 0, 1};
    for (int n = 0; n < 4; n++) {
      CHECK.due("AND for " + n, p.value(6, n), and[n]);
      CHECK.due("AND turned for " + n, p.value(7, n), 1 - and[n]);
      CHECK.due("SAME for " + n, p.value(8, n), same[n]);
      CHECK.due("AND(0, 0) for " + n, p.value(10, n), 1);
      CHECK.due("AND(0, 1) for " + n, p.value(12, n), 0);
      CHECK.due("SAME(1, 1) for " + n, p.value(14, n), 1);
      CHECK.due("SAME(0, 1) for " + n, p.value(16, n), 0);
      CHECK.due("AND(a, -a) for " + n, p.value(18, n), 0);
    }
  }

  private static void valueLeastAndGreatest() {
    CHECK.sentence("value: The value of a LITERAL for ASSIGNMENT n (0 .. 2^INPUTS - 1)");
    for (int inputs = 1; inputs <= 24; inputs++) {
      DilemmaProver p = Check.having(Check.names(inputs, "&"));
      int all = 2 * p.count(0) - 2;
      int most = (1 << inputs) - 1;
      CHECK.due(inputs + " inputs: the greatest", p.value(all, most), 1);
      CHECK.due(inputs + " inputs: the one below", p.value(all, most - 1), 0);
      CHECK.due(inputs + " inputs: the least", p.value(all, 0), 0);
      CHECK.due(inputs + " inputs: beside the greatest", p.value(all, most + 1), -2);
      CHECK.due(inputs + " inputs: beside the least", p.value(all, -1), -2);
    }
    CHECK.due("no inputs: 0", new DilemmaProver().value(0, 0), 1);
    CHECK.due("no inputs: 0 of false", new DilemmaProver().value(1, 0), 0);
    CHECK.due("no inputs: 1", new DilemmaProver().value(0, 1), -2);
    DilemmaProver full = Check.filled("a", 120);
    CHECK.due("the last literal", full.value(239, 1), 0);
    CHECK.due("the one below", full.value(238, 0), 1);
  }

  private static void valueNone() {
    CHECK.sentence("value: -1 there is none");
    DilemmaProver p = Check.having("a&b");
    CHECK.due("the last", p.value(7, 3), 0);
    CHECK.due("beside it", p.value(8, 3), -1);
    for (int l : FAR) {
      CHECK.due("value(" + l + ", 0)", p.value(l, 0), -1);
      CHECK.due("-1 is ahead", p.value(l, 4), -1);
    }
    CHECK.due("a new object", new DilemmaProver().value(2, 0), -1);
    CHECK.due("full", Check.filled("a", 120).value(240, 0), -1);
  }

  private static void valueOutside() {
    CHECK.sentence("value: -2 n is not 0 .. 2^INPUTS - 1");
    DilemmaProver p = Check.having("a&b");
    for (int l = 0; l < 8; l++) {
      CHECK.due("value(" + l + ", 4)", p.value(l, 4), -2);
      for (int n : FAR) {
        CHECK.due("value(" + l + ", " + n + ")", p.value(l, n), -2);
      }
    }
    CHECK.due("3 is inside", p.value(6, 3), 1);
  }

  private static void modelIs(String text, int due) {
    DilemmaProver p = new DilemmaProver();
    CHECK.due("model of " + text, p.model(Check.readText(p, text)), due);
  }

  private static void modelLeast() {
    CHECK.sentence("model: The least ASSIGNMENT for which a LITERAL is 0");
    modelIs("a", 0);
    modelIs("~a", 1);
    modelIs("~(a&b)", 3);
    modelIs("a->b", 1);
    modelIs("a|b|~c", 4);
    modelIs("~a|b|c", 1);
    modelIs("a<->b", 1);
    modelIs("a^b", 0);
    modelIs("~(a^b)", 1);
    // For each n a formula that is 0 for n and for all that have its bits and more.
    for (int n = 0; n < 16; n++) {
      StringBuilder text = new StringBuilder("~(true");
      for (int i = 0; i < 4; i++) {
        text.append((n >> i & 1) == 0 ? "" : "&" + (char) ('a' + i));
      }
      DilemmaProver p = Check.having("a&b&c&d");
      CHECK.due("least is " + n, p.model(Check.readText(p, text.append(")").toString())), n);
    }
  }

  private static void modelAtTheEdgesOfTheRange() {
    CHECK.sentence("model: -4 there are more than 14 INPUTS (14 are not)");
    for (int inputs = 1; inputs <= 14; inputs++) {
      DilemmaProver p = Check.having(Check.names(inputs, "&"));
      int all = 2 * p.count(0) - 2;
      int most = (1 << inputs) - 1;
      CHECK.due(inputs + " inputs: the greatest", p.model(all + 1), most);
      CHECK.due(inputs + " inputs: the least", p.model(all), 0);
      CHECK.due(inputs + " inputs: none", p.model(0), -7);
      int last = Check.readText(p, Check.name(inputs - 1));
      CHECK.due(inputs + " inputs: the last alone", p.model(last + 1), 1 << inputs - 1);
      CHECK.due(inputs + " inputs: alike but for the greatest", p.alike(all, 1), 0);
      CHECK.due(inputs + " inputs: alike for all", p.alike(all, p.gate(2, all, all)), 1);
    }
  }

  private static void modelWithoutInputs() {
    CHECK.sentence("model, alike: no INPUT");
    DilemmaProver p = new DilemmaProver();
    CHECK.due("model(0)", p.model(0), -7);
    CHECK.due("model(1)", p.model(1), 0);
    CHECK.due("alike(0, 0)", p.alike(0, 0), 1);
    CHECK.due("alike(0, 1)", p.alike(0, 1), 0);
    CHECK.due("alike(1, 1)", p.alike(1, 1), 1);
    int gate = p.gate(2, 0, 1);
    CHECK.due("model of AND(0, 1)", p.model(gate), 0);
    CHECK.due("model of it turned", p.model(gate + 1), -7);
    CHECK.due("alike(AND(0, 1), 1)", p.alike(gate, 1), 1);
  }

  private static void modelNone() {
    CHECK.sentence("model: -1 there is none");
    DilemmaProver p = Check.having("a&b");
    CHECK.due("the last", p.model(7), 3);
    CHECK.due("beside it", p.model(8), -1);
    for (int l : FAR) {
      CHECK.due("model(" + l + ")", p.model(l), -1);
    }
    CHECK.due("a new object", new DilemmaProver().model(2), -1);
    CHECK.due("full", Check.filled("a", 120).model(240), -1);
  }

  private static void modelNoRoom() {
    CHECK.sentence("model: -4 there are more than 14 INPUTS");
    for (int inputs = 15; inputs <= 24; inputs++) {
      DilemmaProver p = Check.having(Check.names(inputs, "&"));
      int count = 2 * p.count(0);
      CHECK.due(inputs + " inputs: model of true", p.model(0), -4);
      CHECK.due(inputs + " inputs: model of false", p.model(1), -4);
      CHECK.due(inputs + " inputs: model of an input", p.model(2), -4);
      CHECK.due(inputs + " inputs: model of the last", p.model(count - 1), -4);
      CHECK.due(inputs + " inputs: -1 is ahead", p.model(count), -1);
      CHECK.due(inputs + " inputs: -1 is ahead", p.model(-1), -1);
    }
    DilemmaProver p = Check.having(Check.names(15, "&"));
    p.clear();
    CHECK.due("behind clear()", p.model(1), 0);
  }

  private static void modelByNone() {
    CHECK.sentence("model: -7 by none");
    for (String text : new String[] {"true", "~false", "a|~a", "a->a", "(a->b)|(b->a)", "a<->a"}) {
      modelIs(text, -7);
    }
    modelIs("~(" + Check.names(14, "&") + "&false)", -7);
    modelIs("~(" + Check.names(14, "&") + ")", (1 << 14) - 1);
  }

  private static void alikeByEach() {
    CHECK.sentence("alike: Whether two LITERALS have one value by each ASSIGNMENT: 1, 0");
    DilemmaProver p = Check.having("a&b");
    for (int l = 0; l < 8; l++) {
      CHECK.due("alike(" + l + ", itself)", p.alike(l, l), 1);
      CHECK.due("alike(" + l + ", turned)", p.alike(l, l ^ 1), 0);
    }
    CHECK.due("a and b", p.alike(2, 4), 0);
    CHECK.due("a&b and a: one assignment parts them", p.alike(6, 2), 0);
    CHECK.due("a&b and false: one assignment parts them", p.alike(6, 1), 0);
    CHECK.due("false and a&b", p.alike(1, 6), 0);
    CHECK.due("a&b and ~(~a|~b|~a)", p.alike(6, Check.readText(p, "~(~a|~b|~a)")), 1);
    CHECK.due("a|~a and true", p.alike(Check.readText(p, "a|~a"), 0), 1);
    // Those that differ by the least, and by the greatest assignment alone.
    CHECK.due("a|b and true: the least", p.alike(Check.readText(p, "a|b"), 0), 0);
    CHECK.due("a&b and false: the greatest", p.alike(6, 1), 0);
    DilemmaProver q = Check.having(Check.names(14, "&"));
    int all = 2 * q.count(0) - 2;
    CHECK.due("14 inputs: the greatest", q.alike(all, 1), 0);
    CHECK.due("14 inputs: the least", q.alike(Check.readText(q, Check.names(14, "|")), 0), 0);
    CHECK.due("14 inputs: alike", q.alike(all, Check.readText(q, "~(~" + Check.names(14, "|~") + ")")), 1);
  }

  private static void alikeNone() {
    CHECK.sentence("alike: -1 there is no a, or b");
    DilemmaProver p = Check.having("a&b");
    CHECK.due("the last two", p.alike(6, 7), 0);
    CHECK.due("no a", p.alike(8, 7), -1);
    CHECK.due("no b", p.alike(7, 8), -1);
    CHECK.due("neither", p.alike(8, 8), -1);
    for (int l : FAR) {
      CHECK.due("alike(" + l + ", 0)", p.alike(l, 0), -1);
      CHECK.due("alike(0, " + l + ")", p.alike(0, l), -1);
      CHECK.due("alike(" + l + ", itself)", p.alike(l, l), -1);
    }
    CHECK.due("a new object", new DilemmaProver().alike(0, 2), -1);
    CHECK.due("full", Check.filled("a", 120).alike(240, 0), -1);
  }

  private static void alikeNoRoom() {
    CHECK.sentence("alike: -4 as for model()");
    for (int inputs = 15; inputs <= 24; inputs++) {
      DilemmaProver p = Check.having(Check.names(inputs, "&"));
      int count = 2 * p.count(0);
      CHECK.due(inputs + " inputs", p.alike(0, 0), -4);
      CHECK.due(inputs + " inputs, others", p.alike(2, count - 1), -4);
      CHECK.due(inputs + " inputs: -1 is ahead", p.alike(0, count), -1);
      CHECK.due(inputs + " inputs: -1 is ahead", p.alike(count, 0), -1);
      CHECK.due(inputs + " inputs: -1 is ahead", p.alike(-1, 0), -1);
    }
  }

  private static void contradictionHasNoPart() {
    CHECK.sentence("value, model, alike: by ASSIGNMENTS alone, whatever is JOINED");
    DilemmaProver p = Check.having("a&b");
    p.join(2, 4);
    p.join(6, 0);
    CHECK.due("value", p.value(6, 1), 0);
    CHECK.due("model", p.model(6), 0);
    CHECK.due("alike", p.alike(2, 4), 0);
    p.join(0, 1);
    CHECK.due("in a contradiction: value", p.value(6, 3), 1);
    CHECK.due("in a contradiction: model", p.model(7), 3);
    CHECK.due("in a contradiction: alike", p.alike(0, 1), 0);
    CHECK.due("it stays", p.count(3), -3);
  }
}
