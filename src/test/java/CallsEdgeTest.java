/** The edges of promises 1 to 9: the first and the last that there is, and those beside them. */
public final class CallsEdgeTest {
  private static final Check CHECK = new Check("CallsEdgeTest");
  private static final int LEAST = Integer.MIN_VALUE;
  private static final int MOST = Integer.MAX_VALUE;
  private static final int[] FAR = {LEAST, LEAST + 1, -65536, -256, -2, -1, 65536, 1 << 24, 1 << 30, MOST - 1, MOST};

  public static void main(String[] args) {
    newObject();
    lowestBytesHighestFirst();
    howManyItHas();
    withNothingItIsEmpty();
    feedOutside();
    feedNoRoom();
    readAsOneFormula();
    readAnEmptyText();
    readLessTheFault();
    placeOfTheLatest();
    placeWithoutAFault();
    counts();
    countsInAContradiction();
    countOutside();
    variableFirstAndLast();
    variableNone();
    variableOutside();
    gateThatThereIs();
    gateOfLastLiterals();
    gateNone();
    gateOfAnotherKind();
    gateOneTooMany();
    signs();
    signNone();
    clearing();
    whatClearLeaves();
    clearInAContradiction();
    CHECK.end();
  }

  private static void newObject() {
    CHECK.sentence("DilemmaProver(): No text, VARIABLE 0 alone");
    int[] due = {1, 0, 0, 2};
    for (int what = 0; what < 4; what++) {
      CHECK.due("count(" + what + ")", new DilemmaProver().count(what), due[what]);
      CHECK.due("told(" + what + ")", new DilemmaProver().told(what), 0);
    }
    for (int what = 0; what < 3; what++) {
      CHECK.due("variable(0, " + what + ")", new DilemmaProver().variable(0, what), 0);
      CHECK.due("variable(1, " + what + ")", new DilemmaProver().variable(1, what), -1);
    }
    CHECK.due("feed", new DilemmaProver().feed('a', 1), 1);
    CHECK.due("feed of none", new DilemmaProver().feed('a', 0), 0);
    CHECK.due("read", new DilemmaProver().read(), -12);
    CHECK.due("place", new DilemmaProver().place(), -1);
    CHECK.due("sign", new DilemmaProver().sign(0, 0), -1);
    CHECK.due("gate", new DilemmaProver().gate(2, 1, 0), 2);
    CHECK.due("gate of what is not", new DilemmaProver().gate(2, 2, 0), -1);
    CHECK.due("clear", new DilemmaProver().clear(), 1);
    CHECK.due("forget", new DilemmaProver().forget(), 2);
    CHECK.due("join", new DilemmaProver().join(0, 0), 0);
    CHECK.due("join of both", new DilemmaProver().join(1, 0), 2);
    CHECK.due("stands(0)", new DilemmaProver().stands(0), 0);
    CHECK.due("stands(1)", new DilemmaProver().stands(1), 1);
    CHECK.due("stands(2)", new DilemmaProver().stands(2), -1);
    CHECK.due("saturate", new DilemmaProver().saturate(4, 5000), 1);
    CHECK.due("prove true", new DilemmaProver().prove(0, 4, 5000), 0);
    CHECK.due("prove false", new DilemmaProver().prove(1, 4, 5000), -5);
    CHECK.due("value", new DilemmaProver().value(0, 0), 1);
    CHECK.due("model of false", new DilemmaProver().model(1), 0);
    CHECK.due("model of true", new DilemmaProver().model(0), -7);
    CHECK.due("alike", new DilemmaProver().alike(0, 1), 0);
  }

  private static void lowestBytesHighestFirst() {
    CHECK.sentence("feed: The n lowest bytes of v, the highest first, come behind THE TEXT");
    String eight = "    abcd";
    for (int n = 1; n <= 4; n++) {
      DilemmaProver p = new DilemmaProver();
      p.feed(Check.bytes(eight), n);
      p.read();
      for (int i = 0; i < n; i++) {
        CHECK.due("byte " + i + " of " + n, p.sign(1, i), "abcd".charAt(4 - n + i));
      }
      CHECK.due("no byte more", p.sign(1, n), -1);
    }
    // A byte that no token begins with, at each place of eight.
    for (int n = 1; n <= 8; n++) {
      for (int at = 0; at < n; at++) {
        DilemmaProver p = new DilemmaProver();
        p.feed(0x2020202020202020L ^ 0xDFL << 8 * (n - 1 - at), n);
        CHECK.due("the byte 255 among " + n, p.read(), -11);
        CHECK.due("its place", p.place(), at);
      }
    }
    DilemmaProver p = new DilemmaProver();
    p.feed(Check.bytes("$$$$$$ab"), 2);
    p.feed(Check.bytes("c1&abc1 "), 8);
    CHECK.due("behind the text", p.read(), 4);
    CHECK.due("one name", p.count(1), 1);
  }

  private static void howManyItHas() {
    CHECK.sentence("feed: how many it has");
    DilemmaProver p = new DilemmaProver();
    int bytes = 0;
    for (int n = 1; n <= 8; n++) {
      bytes += n;
      CHECK.due("feed " + n, p.feed(-1L, n), bytes);
    }
    p.read();
    CHECK.due("read() takes none away", p.feed(0L, 1), bytes + 1);
    p.clear();
    CHECK.due("nor does clear()", p.feed(0L, 1), bytes + 2);
  }

  private static void withNothingItIsEmpty() {
    CHECK.sentence("feed: with n = 0 it is empty: 0");
    DilemmaProver p = Check.given("a&b");
    CHECK.due("n = 0", p.feed('a', 0), 0);
    CHECK.due("it has none", p.read(), -12);
    CHECK.due("its end", p.place(), 0);
    CHECK.due("n = 0 again", p.feed(-1L, 0), 0);
    CHECK.due("it begins anew", p.feed('a', 1), 1);
    CHECK.due("and is read", p.read(), 2);
    DilemmaProver full = Check.given(Check.repeat(" ", 3000));
    CHECK.due("a full one", full.feed(0L, 0), 0);
    CHECK.due("has room again", full.feed(0L, 8), 8);
  }

  private static void feedOutside() {
    CHECK.sentence("feed: -2 n is not 0 .. 8");
    DilemmaProver p = Check.given("ab");
    for (int n : FAR) {
      CHECK.due("n = " + n, p.feed('c', n), -2);
    }
    for (int n : new int[] {9, 10, 16, 64, 256, 264}) {
      CHECK.due("n = " + n, p.feed('c', n), -2);
    }
    CHECK.due("the text is as it was", p.feed('c', 1), 3);
    CHECK.due("n = 8 is not outside", p.feed('c', 8), 11);
  }

  private static void feedNoRoom() {
    CHECK.sentence("feed: -4");
    DilemmaProver p = Check.given(Check.repeat(" ", 2997) + "a");
    CHECK.due("3 where there is room for 2", p.feed(Check.bytes("bcd"), 3), -4);
    CHECK.due("-2 is ahead", p.feed(0L, 9), -2);
    CHECK.due("2", p.feed(Check.bytes("xy"), 2), 3000);
    CHECK.due("1 more", p.feed('z', 1), -4);
    p.read();
    CHECK.due("nothing of what was refused is there", p.sign(1, 1), 'x');
    CHECK.due("sign(1, 2)", p.sign(1, 2), 'y');
    CHECK.due("sign(1, 3)", p.sign(1, 3), -1);
  }

  private static void readAsOneFormula() {
    CHECK.sentence("read: THE TEXT is read as one formula: its LITERAL");
    DilemmaProver p = Check.given("a&b");
    CHECK.due("a&b", p.read(), 6);
    CHECK.due("again", p.read(), 6);
    p.feed(Check.bytes("|c"), 2);
    CHECK.due("all of it, not what came last", p.read(), 11);
    DilemmaProver longest = Check.given("a" + Check.repeat(" ", 2997) + "&b");
    CHECK.due("3000 bytes", longest.read(), 6);
    CHECK.due("it may be turned", Check.readText(p, "~(a&b)"), 7);
    CHECK.due("or a constant", Check.readText(p, "false"), 1);
  }

  private static void readAnEmptyText() {
    CHECK.sentence("read: THE TEXT is read as one formula (an empty one)");
    DilemmaProver p = new DilemmaProver();
    CHECK.due("read()", p.read(), -12);
    CHECK.due("place()", p.place(), 0);
    CHECK.due("nothing is made", p.count(0), 1);
    Check.give(p, "a");
    p.feed(0L, 0);
    CHECK.due("emptied", p.read(), -12);
    CHECK.due("place()", p.place(), 0);
    p.feed(' ', 1);
    CHECK.due("a blank", p.read(), -12);
    CHECK.due("place()", p.place(), 1);
  }

  private static void readLessTheFault() {
    CHECK.sentence("read: -10 less the FAULT");
    CHECK.due("fault 1", Check.given("?").read(), -11);
    CHECK.due("fault 2", Check.given(")").read(), -12);
    CHECK.due("fault 3", Check.given(Check.repeat("~", 41)).read(), -13);
    CHECK.due("fault 4", Check.given(Check.names(25, "|")).read(), -14);
    CHECK.due("fault 5", Check.readText(Check.filled("a", 120), "b"), -15);
  }

  private static void placeOfTheLatest() {
    CHECK.sentence("place: The place of the fault of the latest read()");
    DilemmaProver p = Check.having("a $");
    CHECK.due("fault 1", p.place(), 2);
    Check.readText(p, "(a b)");
    CHECK.due("fault 2", p.place(), 3);
    Check.readText(p, "a&" + Check.repeat("(", 41));
    CHECK.due("fault 3", p.place(), 42);
    String names = Check.names(25, "|");
    p.clear();
    Check.readText(p, names);
    CHECK.due("fault 4", p.place(), names.lastIndexOf('|') + 1);
    p.clear();
    for (int v = 1; v < 120; v++) {
      p.gate(2, 0, 2 * v - 2);
    }
    Check.readText(p, "   b");
    CHECK.due("fault 5", p.place(), 3);
    CHECK.due("asked again", p.place(), 3);
    p.feed(0L, 0);
    p.feed(0L, 9);
    p.prove(1, 0, 5);
    p.saturate(0, 5);
    p.forget();
    p.clear();
    CHECK.due("only read() changes it", p.place(), 3);
  }

  private static void placeWithoutAFault() {
    CHECK.sentence("place: -1 if it had none, or before");
    DilemmaProver p = new DilemmaProver();
    CHECK.due("before", p.place(), -1);
    Check.give(p, "$");
    CHECK.due("feed() reads nothing", p.place(), -1);
    p.read();
    CHECK.due("one with a fault", p.place(), 0);
    Check.give(p, "a");
    CHECK.due("still", p.place(), 0);
    p.read();
    CHECK.due("one without, behind it", p.place(), -1);
  }

  private static void countsAre(DilemmaProver p, int variables, int inputs, int gates, int classes) {
    int[] due = {variables, inputs, gates, classes};
    for (int what = 0; what < 4; what++) {
      CHECK.due("count(" + what + ")", p.count(what), due[what]);
    }
  }

  private static void counts() {
    CHECK.sentence("count: 0 how many VARIABLES, 1 INPUTS, 2 GATES, 3 CLASSES of LITERALS");
    countsAre(new DilemmaProver(), 1, 0, 0, 2);
    countsAre(Check.having("a"), 2, 1, 0, 4);
    countsAre(Check.having("true&true"), 2, 0, 1, 4);
    countsAre(Check.having(Check.names(24, "&")), 48, 24, 23, 96);
    countsAre(Check.filled(Check.names(24, "&"), 120), 120, 24, 95, 240);
    DilemmaProver p = Check.filled("true", 120);
    countsAre(p, 120, 0, 119, 240);
    for (int v = 1; v < 120; v++) {
      p.join(2 * v, v % 2);
    }
    countsAre(p, 120, 0, 119, 2);
  }

  private static void countsInAContradiction() {
    CHECK.sentence("count: -3 in a CONTRADICTION");
    DilemmaProver p = Check.having("a&b");
    p.join(4, 5);
    countsAre(p, 4, 2, 1, -3);
    Check.readText(p, "c");
    countsAre(p, 5, 3, 1, -3);
    CHECK.due("no such what", p.count(4), -2);
    p.forget();
    countsAre(p, 5, 3, 1, 10);
  }

  private static void countOutside() {
    CHECK.sentence("count: -2 no such what");
    DilemmaProver p = Check.having("a&b");
    CHECK.due("count(4)", p.count(4), -2);
    for (int what : FAR) {
      CHECK.due("count(" + what + ")", p.count(what), -2);
    }
  }

  private static void variableIs(DilemmaProver p, int v, int kind, int first, int second) {
    CHECK.due("variable(" + v + ", 0)", p.variable(v, 0), kind);
    CHECK.due("variable(" + v + ", 1)", p.variable(v, 1), first);
    CHECK.due("variable(" + v + ", 2)", p.variable(v, 2), second);
  }

  private static void variableFirstAndLast() {
    CHECK.sentence("variable: its kind, its first LITERAL (of an INPUT which of them it is; 0 of TRUE), its second one");
    DilemmaProver p = Check.filled(Check.names(24, "<->"), 118);
    variableIs(p, 0, 0, 0, 0);
    variableIs(p, 1, 1, 0, 0);
    variableIs(p, 2, 1, 1, 0);
    variableIs(p, 3, 3, 2, 4);
    variableIs(p, 46, 1, 23, 0);
    variableIs(p, 47, 3, 90, 92);
    p.gate(3, 235, 234);
    variableIs(p, 118, 3, 234, 235);
    p.gate(2, 237, 237);
    variableIs(p, 119, 2, 237, 237);
    DilemmaProver q = Check.filled("a", 119);
    Check.readText(q, "b");
    variableIs(q, 119, 1, 1, 0);
  }

  private static void variableNone() {
    CHECK.sentence("variable: -1 there is none");
    DilemmaProver p = Check.having("a&b");
    for (int what = 0; what < 3; what++) {
      CHECK.due("the last", p.variable(3, what) >= 0 ? 1 : 0, 1);
      CHECK.due("beside it", p.variable(4, what), -1);
      for (int v : FAR) {
        CHECK.due("variable(" + v + ", " + what + ")", p.variable(v, what), -1);
      }
    }
    DilemmaProver full = Check.filled("a", 120);
    CHECK.due("variable(119, 0)", full.variable(119, 0), 2);
    CHECK.due("variable(120, 0)", full.variable(120, 0), -1);
    full.clear();
    CHECK.due("behind clear()", full.variable(1, 0), -1);
  }

  private static void variableOutside() {
    CHECK.sentence("variable: -2 no such what");
    DilemmaProver p = Check.having("a&b");
    for (int v = 0; v < 4; v++) {
      CHECK.due("variable(" + v + ", 3)", p.variable(v, 3), -2);
      for (int what : FAR) {
        CHECK.due("variable(" + v + ", " + what + ")", p.variable(v, what), -2);
      }
    }
    CHECK.due("-1 is ahead", p.variable(4, 3), -1);
    CHECK.due("-1 is ahead", p.variable(-1, -1), -1);
  }

  private static void gateThatThereIs() {
    CHECK.sentence("gate: The GATE of a kind 2 (AND) or 3 (SAME) of two LITERALS, made if need be: its LITERAL");
    DilemmaProver p = Check.having("a&b");
    CHECK.due("one that read() made", p.gate(2, 2, 4), 6);
    CHECK.due("the other way round", p.gate(2, 4, 2), 6);
    CHECK.due("of the other kind", p.gate(3, 4, 2), 8);
    CHECK.due("again", p.gate(3, 2, 4), 8);
    CHECK.due("variables", p.count(0), 5);
    CHECK.due("read() finds it, too", Check.readText(p, "b<->a"), 8);
    CHECK.due("the new one is alone", p.stands(9), 9);
    // An INPUT's row (kind 1, which of them, 0) is no gate.
    CHECK.due("AND(0, 0)", p.gate(2, 0, 0), 10);
    CHECK.due("SAME(0, 1)", p.gate(3, 1, 0), 12);
  }

  private static void gateOfLastLiterals() {
    CHECK.sentence("gate: of two LITERALS (the first and the last)");
    DilemmaProver p = Check.having("a&b");
    CHECK.due("AND(0, 7)", p.gate(2, 0, 7), 8);
    CHECK.due("SAME(9, 9)", p.gate(3, 9, 9), 10);
    CHECK.due("AND(11, 0)", p.gate(2, 11, 0), 12);
    CHECK.due("first of it", p.variable(6, 1), 0);
    CHECK.due("second of it", p.variable(6, 2), 11);
  }

  private static void gateNone() {
    CHECK.sentence("gate: -1 there is no a, or b");
    DilemmaProver p = Check.having("a&b");
    for (int kind = 1; kind <= 4; kind++) {
      CHECK.due("no a, kind " + kind, p.gate(kind, 8, 0), -1);
      CHECK.due("no b, kind " + kind, p.gate(kind, 0, 8), -1);
      for (int l : FAR) {
        CHECK.due("gate(" + kind + ", " + l + ", 0)", p.gate(kind, l, 0), -1);
        CHECK.due("gate(" + kind + ", 0, " + l + ")", p.gate(kind, 0, l), -1);
      }
    }
    CHECK.due("nothing was made", p.count(0), 4);
  }

  private static void gateOfAnotherKind() {
    CHECK.sentence("gate: -2 another kind");
    DilemmaProver p = Check.having("a&b");
    for (int kind : new int[] {0, 1, 4, 5}) {
      CHECK.due("kind " + kind, p.gate(kind, 2, 4), -2);
    }
    for (int kind : FAR) {
      CHECK.due("kind " + kind, p.gate(kind, 2, 4), -2);
    }
    // The rows of TRUE and of the first input, were these looked for.
    CHECK.due("kind 0 of 0, 0", p.gate(0, 0, 0), -2);
    CHECK.due("kind 1 of 0, 0", p.gate(1, 0, 0), -2);
    CHECK.due("nothing was made", p.count(0), 4);
  }

  private static void gateOneTooMany() {
    CHECK.sentence("gate: -4 there are 120 VARIABLES");
    DilemmaProver p = Check.filled("a&b", 119);
    CHECK.due("the last", p.gate(3, 2, 4), 238);
    CHECK.due("one too many", p.gate(3, 3, 4), -4);
    CHECK.due("of the last literals", p.gate(2, 239, 239), -4);
    CHECK.due("there are 120", p.count(0), 120);
    CHECK.due("one that there is need not be made", p.gate(3, 4, 2), 238);
    CHECK.due("-1 is ahead", p.gate(3, 0, 240), -1);
    CHECK.due("-2 is ahead", p.gate(4, 0, 239), -2);
    p.clear();
    CHECK.due("room again", p.gate(3, 0, 1), 2);
  }

  private static void signs() {
    CHECK.sentence("sign: Sign i of the NAME of an INPUT (of a VARIABLE that is one)");
    DilemmaProver p = Check.having("z");
    Check.readText(p, "a0z9bc");
    CHECK.due("sign(1, 0)", p.sign(1, 0), 'z');
    for (int i = 0; i < 6; i++) {
      CHECK.due("sign(2, " + i + ")", p.sign(2, i), "a0z9bc".charAt(i));
    }
    DilemmaProver many = Check.having(Check.names(24, "&"));
    CHECK.due("of the last input", many.sign(46, 0), Check.name(23).charAt(0));
    CHECK.due("its last sign", many.sign(46, 1), '0');
    DilemmaProver full = Check.filled("a", 119);
    Check.readText(full, "xy");
    CHECK.due("of the last variable", full.sign(119, 1), 'y');
  }

  private static void signNone() {
    CHECK.sentence("sign: -1 there is none");
    DilemmaProver p = Check.having("ab&cdefgh");
    CHECK.due("behind the last sign", p.sign(1, 2), -1);
    CHECK.due("behind six", p.sign(2, 6), -1);
    CHECK.due("of TRUE", p.sign(0, 0), -1);
    CHECK.due("of a gate", p.sign(3, 0), -1);
    CHECK.due("of none", p.sign(4, 0), -1);
    for (int far : FAR) {
      CHECK.due("sign(1, " + far + ")", p.sign(1, far), -1);
      CHECK.due("sign(" + far + ", 0)", p.sign(far, 0), -1);
      CHECK.due("sign(" + far + ", " + far + ")", p.sign(far, far), -1);
    }
    p.clear();
    CHECK.due("behind clear()", p.sign(1, 0), -1);
    Check.readText(p, "x");
    CHECK.due("a name is as long as it was read", p.sign(1, 1), -1);
    p.clear();
    p.gate(2, 0, 0);
    CHECK.due("a gate where an input was", p.sign(1, 0), -1);
  }

  private static void clearing() {
    CHECK.sentence("clear: VARIABLE 0 alone, also in the EQUIVALENCE: how many there were");
    CHECK.due("a new object", new DilemmaProver().clear(), 1);
    DilemmaProver p = Check.filled(Check.names(24, "&"), 120);
    p.join(2, 0);
    p.join(238, 1);
    CHECK.due("a full one", p.clear(), 120);
    CHECK.due("again", p.clear(), 1);
    countsAre(p, 1, 0, 0, 2);
    CHECK.due("stands(2)", p.stands(2), -1);
    CHECK.due("value(0, 1): no inputs", p.value(0, 1), -2);
    Check.readText(p, "a&b");
    CHECK.due("a new variable is alone: stands(2)", p.stands(2), 2);
    CHECK.due("new names", p.sign(2, 0), 'b');
    countsAre(p, 4, 2, 1, 8);
    for (int i = 0; i < 22; i++) {
      Check.readText(p, Check.name(i));
    }
    CHECK.due("24 inputs have room again", p.count(1), 24);
  }

  private static void whatClearLeaves() {
    CHECK.sentence("clear: (What was told stays.)");
    DilemmaProver p = Check.having("(a|b)&(a|~b)");
    p.join(2 * p.count(0) - 2, 0);
    p.saturate(1, 100);
    int[] told = {p.told(0), p.told(1), p.told(2), p.told(3)};
    p.clear();
    for (int what = 0; what < 4; what++) {
      CHECK.holds("there was something to tell", told[what] > 0);
      CHECK.due("told(" + what + ")", p.told(what), told[what]);
    }
    CHECK.due("the text is no variable: it stays", p.read(), 10);
    Check.readText(p, "a $");
    p.clear();
    CHECK.due("so does the place of the latest fault", p.place(), 2);
  }

  private static void clearInAContradiction() {
    CHECK.sentence("clear: VARIABLE 0 alone, also in the EQUIVALENCE (in a CONTRADICTION)");
    DilemmaProver p = Check.having("a&b");
    p.join(0, 1);
    CHECK.due("clear()", p.clear(), 4);
    CHECK.due("classes", p.count(3), 2);
    CHECK.due("stands(1)", p.stands(1), 1);
    Check.readText(p, "a&b");
    CHECK.due("classes of new ones", p.count(3), 8);
    CHECK.due("join", p.join(2, 4), 1);
  }
}
