/** The edges that the document names under "Terms": the text, tokens, names, gates. */
public final class TermsEdgeTest {
  private static final Check CHECK = new Check("TermsEdgeTest");
  private static final String BLANKS = "\t\n\r ";
  private static final int READ = 0;

  public static void main(String[] args) {
    textHasAtMost3000Bytes();
    placesFrom0();
    nothingBehindTheEndIsRead();
    everyByteInFront();
    everyByteBehind();
    blanksPartTokens();
    tokensAsLongAsCanBe();
    sixSignsAtMost();
    trueAndFalseAreWords();
    partsOfSignsAreNoTokens();
    strengthAtTheEdges();
    numberedInTheOrderTheyAreMade();
    literals();
    lesserOneFirst();
    inputMadeIfThereIsNone();
    gateMadeWhenBothHaveBeenRead();
    oneGateOfOneKind();
    nothingIsMadeSimpler();
    CHECK.end();
  }

  private static String blanks(int n) {
    return Check.repeat(" ", n);
  }

  /** Fault READ: the text is read without one, and the answer is not looked at. */
  private static DilemmaProver reads(String text, int fault, int place) {
    DilemmaProver p = Check.given(text);
    int answer = p.read();
    String told = "\"" + (text.length() > 60 ? ".. " + text.substring(text.length() - 40) : text) + "\"";
    if (fault == READ) {
      CHECK.holds(told + " is read (" + answer + ")", answer >= 0);
    } else {
      CHECK.due(told, answer, -10 - fault);
    }
    CHECK.due(told + ": place()", p.place(), place);
    return p;
  }

  private static void isRead(String text, int literal) {
    CHECK.due("\"" + text + "\"", reads(text, READ, -1).read(), literal);
  }

  private static void textHasAtMost3000Bytes() {
    CHECK.sentence("THE TEXT has at most 3000 bytes");
    DilemmaProver p = new DilemmaProver();
    for (int bytes = 8; bytes <= 3000; bytes += 8) {
      CHECK.due("feed 8", p.feed(Check.bytes("       a"), 8), bytes);
    }
    for (int n = 1; n <= 8; n++) {
      CHECK.due("3000 bytes and " + n + " more", p.feed('b', n), -4);
    }
    for (int free = 1; free <= 7; free++) {
      DilemmaProver q = Check.given(blanks(3000 - free));
      CHECK.due(free + " free, one more is fed", q.feed('b', free + 1), -4);
      CHECK.due(free + " free, 8 are fed", q.feed('b', 8), -4);
      CHECK.due(free + " free, all are fed", q.feed('b', free), 3000);
      CHECK.due(free + " free, one more", q.feed('b', 1), -4);
    }
    CHECK.due("a text of 3000 bytes is read", Check.having(blanks(2994) + "abcdef").sign(1, 5), 'f');
  }

  private static void placesFrom0() {
    CHECK.sentence("places from 0");
    reads("$", 1, 0);
    reads("a$", 1, 1);
    reads(blanks(2999) + "$", 1, 2999);
    reads(blanks(2998) + "a$", 1, 2999);
    reads(blanks(2999) + "a", READ, -1);
    reads(blanks(2999) + "~", 2, 3000);
  }

  private static void nothingBehindTheEndIsRead() {
    CHECK.sentence("with n = 0 it is empty");
    String[][] texts = {
      {"abcdefg", "abc"}, {"a<->b", "a"}, {"(a)&b", "(a)"}, {"true1", "true"}, {"a b", "a"}
    };
    for (String[] pair : texts) {
      DilemmaProver p = Check.given(pair[0]);
      Check.give(p, pair[1]);
      DilemmaProver q = Check.given(pair[1]);
      CHECK.due(pair[1] + " behind " + pair[0], p.read(), q.read());
      CHECK.due("seen then", Check.seen(p), Check.seen(q));
    }
    DilemmaProver p = Check.given("a<->b");
    Check.give(p, "a<");
    CHECK.due("a< behind a<->b", p.read(), -11);
    CHECK.due("its place", p.place(), 1);
    Check.give(p, "a-");
    CHECK.due("a- behind a<", p.read(), -11);
    DilemmaProver full = Check.given(blanks(2998) + "a<");
    full.feed(Check.bytes("->b"), 3);
    CHECK.due("what was refused is not there", full.read(), -11);
    CHECK.due("its place", full.place(), 2998 + 1);
  }

  private static boolean isLetter(char sign) {
    return sign >= 'a' && sign <= 'z';
  }

  private static boolean isIn(String signs, char sign) {
    return signs.indexOf(sign) >= 0;
  }

  private static void everyByteInFront() {
    CHECK.sentence("BLANKS: 9, 10, 13, 32; NAMES (a .. z, ..); SIGNS");
    for (char first = 0; first < 256; first++) {
      String text = first + "a";
      if (isLetter(first)) {
        CHECK.due("a name that begins with " + (int) first, reads(text, READ, -1).sign(1, 0), first);
      } else if (isIn(BLANKS, first)) {
        CHECK.due("blank " + (int) first, reads(text, READ, -1).sign(1, 0), 'a');
      } else if (first == '~') {
        CHECK.due("~a", reads(text, READ, -1).read(), 3);
      } else if (first == '(') {
        reads(text, 2, 2);
      } else if (isIn(")&|^", first)) {
        reads(text, 2, 0);
      } else {
        reads(text, 1, 0);
      }
    }
  }

  private static void everyByteBehind() {
    CHECK.sentence("BLANKS: 9, 10, 13, 32; NAMES (.. then a .. z, 0 .. 9); SIGNS");
    for (char second = 0; second < 256; second++) {
      String text = "a" + second;
      if (isLetter(second) || (second >= '0' && second <= '9')) {
        CHECK.due("a name that goes on with " + (int) second, reads(text, READ, -1).sign(1, 1), second);
      } else if (isIn(BLANKS, second)) {
        CHECK.due("blank " + (int) second, reads(text, READ, -1).sign(1, 1), -1);
      } else if (isIn("()~", second)) {
        reads(text, 2, 1);
      } else if (isIn("&|^", second)) {
        reads(text, 2, 2);
      } else {
        reads(text, 1, 1);
      }
    }
  }

  private static void blanksPartTokens() {
    CHECK.sentence("BLANKS: 9, 10, 13, 32");
    for (int i = 0; i < BLANKS.length(); i++) {
      char blank = BLANKS.charAt(i);
      reads("a" + blank + "b", 2, 2);
      reads("tr" + blank + "ue", 2, 3);
      reads("a-" + blank + ">b", 1, 1);
      reads("a<" + blank + "->b", 1, 1);
      reads("a<-" + blank + ">b", 1, 1);
      reads(blank + "(" + blank + "~" + blank + "a" + blank + ")" + blank + "->" + blank + "true" + blank, READ, -1);
    }
    reads(BLANKS + BLANKS, 2, 8);
  }

  private static void tokensAsLongAsCanBe() {
    CHECK.sentence("TOKENS, as long as can be");
    CHECK.due("abc is one name", reads("abc", READ, -1).count(1), 1);
    CHECK.due("a1b2c3 is one name", reads("a1b2c3", READ, -1).sign(1, 5), '3');
    CHECK.due("truex is a name", reads("truex", READ, -1).count(1), 1);
    CHECK.due("true1 is a name", reads("true1", READ, -1).sign(1, 4), '1');
    CHECK.due("false0 is a name", reads("false0", READ, -1).sign(1, 5), '0');
    CHECK.due("falsea is a name", reads("falsea&falsea", READ, -1).count(1), 1);
    CHECK.due("atrue is a name", reads("atrue", READ, -1).count(1), 1);
    isRead("a<->b", 6);
    isRead("a->b", 7);
    reads("a<->->b", 2, 4);
    reads("a-><->b", 2, 3);
    reads("a->>b", 1, 3);
    reads("a<-->b", 1, 1);
    isRead("~~a", 2);
  }

  private static void sixSignsAtMost() {
    CHECK.sentence("6 signs at most");
    String signs = "abcdefg";
    for (int n = 1; n <= 6; n++) {
      DilemmaProver p = reads(signs.substring(0, n), READ, -1);
      CHECK.due("the last sign of " + n, p.sign(1, n - 1), signs.charAt(n - 1));
      CHECK.due("none behind it", p.sign(1, n), -1);
    }
    reads("abcdefg", 1, 0);
    reads("abcde67", 1, 0);
    reads("truetru", 1, 0);
    reads("falsefalse", 1, 0);
    reads("abcdef&abcdefg", 1, 7);
    reads(Check.repeat("a", 3000), 1, 0);
    reads(blanks(2993) + "abcdefg", 1, 2993);
    CHECK.due("names that differ in the sixth sign", reads("abcdef&abcdeg", READ, -1).count(1), 2);
    CHECK.due("a name that begins another", reads("abcdef&abcde&a&ab", READ, -1).count(1), 4);
    CHECK.due("a name that is too long makes no input", reads("abcdefg", 1, 0).count(0), 1);
  }

  private static void trueAndFalseAreWords() {
    CHECK.sentence("true and false are WORDS");
    isRead("true", 0);
    isRead("false", 1);
    isRead("~true", 1);
    CHECK.due("they are no inputs", reads("true|false", READ, -1).count(1), 0);
    for (String name : new String[] {"tru", "fals", "rue", "alse", "truf", "falsf", "truee", "falsee", "eurt"}) {
      CHECK.due(name + " is a name", reads(name, READ, -1).count(1), 1);
    }
    reads("True", 1, 0);
    reads("true false", 2, 5);
    reads("true true", 2, 5);
  }

  private static void partsOfSignsAreNoTokens() {
    CHECK.sentence("SIGNS ( ) & | ^ ~ -> <->");
    for (String part : new String[] {"-", "<", "<-", ">", "<>", "->", "<->"}) {
      boolean isWhole = part.equals("->") || part.equals("<->");
      reads("a" + part, isWhole ? 2 : 1, isWhole ? 1 + part.length() : 1);
      reads(part, isWhole ? 2 : 1, 0);
    }
    reads("a<-b", 1, 1);
    reads("a-b", 1, 1);
    reads("a&&b", 2, 2);
    reads("a||b", 2, 2);
    reads("a=b", 1, 1);
    reads("a!b", 1, 1);
  }

  /** Of the same literals there is one gate, so two texts of one form have one literal. */
  private static void sameAs(String text, String bracketed) {
    DilemmaProver p = Check.having("a&b&c");
    int one = Check.readText(p, text);
    int other = Check.readText(p, bracketed);
    CHECK.due(text + " is " + bracketed, one, other);
  }

  private static void strengthAtTheEdges() {
    CHECK.sentence("formula: imp { <-> imp } .. ({ }: from the left)");
    sameAs("a<->b<->c", "(a<->b)<->c");
    sameAs("a->b->c", "a->(b->c)");
    sameAs("a|b|c", "(a|b)|c");
    sameAs("a^b^c", "(a^b)^c");
    sameAs("a&b&c", "(a&b)&c");
    sameAs("a<->b->c", "a<->(b->c)");
    sameAs("a->b<->c", "(a->b)<->c");
    sameAs("a->b|c", "a->(b|c)");
    sameAs("a|b->c", "(a|b)->c");
    sameAs("a|b^c", "a|(b^c)");
    sameAs("a^b|c", "(a^b)|c");
    sameAs("a^b&c", "a^(b&c)");
    sameAs("a&b^c", "(a&b)^c");
    sameAs("~a&b", "(~a)&b");
    sameAs("~a<->b", "(~a)<->b");
    sameAs("~~a->~b", "a->(~b)");
  }

  private static void kinds(DilemmaProver p, int... kinds) {
    CHECK.due("variables", p.count(0), kinds.length);
    for (int v = 0; v < kinds.length; v++) {
      CHECK.due("kind of " + v, p.variable(v, 0), kinds[v]);
    }
  }

  private static void numberedInTheOrderTheyAreMade() {
    CHECK.sentence("VARIABLES are numbered from 0: 0 is TRUE; others are INPUTS or GATES, in the order in which they are made");
    kinds(new DilemmaProver(), 0);
    kinds(Check.having("a&(b<->c)&d"), 0, 1, 1, 1, 3, 2, 1, 2);
    DilemmaProver p = Check.having("true&true");
    Check.readText(p, "x");
    p.gate(3, 4, 2);
    Check.readText(p, "y");
    kinds(p, 0, 2, 1, 3, 1);
    CHECK.due("y is the second input", p.variable(4, 1), 1);
  }

  private static void literals() {
    CHECK.sentence("A LITERAL is 2 times a VARIABLE, and 1 more if it is turned: 0 is true, 1 is false; - l is l turned");
    isRead("true", 0);
    isRead("~true", 1);
    isRead("~false", 0);
    isRead("~~false", 1);
    DilemmaProver p = Check.having(Check.names(24, "&"));
    CHECK.due("the first input", Check.readText(p, Check.name(0)), 2);
    CHECK.due("it is turned", Check.readText(p, "~" + Check.name(0)), 3);
    CHECK.due("the last input", Check.readText(p, Check.name(23)), 2 * 46);
    CHECK.due("it is turned", Check.readText(p, "~" + Check.name(23)), 2 * 46 + 1);
    CHECK.due("and turned back", Check.readText(p, "~~" + Check.name(23)), 2 * 46);
  }

  private static void isGate(DilemmaProver p, int v, int kind, int first, int second) {
    CHECK.due("kind of " + v, p.variable(v, 0), kind);
    CHECK.due("first of " + v, p.variable(v, 1), first);
    CHECK.due("second of " + v, p.variable(v, 2), second);
  }

  private static void lesserOneFirst() {
    CHECK.sentence("A GATE has two LITERALS, the lesser one first (they may be one)");
    DilemmaProver p = Check.having("a");
    Check.readText(p, "b");
    CHECK.due("AND(b, a)", Check.readText(p, "b&a"), 6);
    isGate(p, 3, 2, 2, 4);
    CHECK.due("AND(-a, a)", p.gate(2, 3, 2), 8);
    isGate(p, 4, 2, 2, 3);
    CHECK.due("AND(a, a)", p.gate(2, 2, 2), 10);
    isGate(p, 5, 2, 2, 2);
    CHECK.due("SAME(-b, -b)", p.gate(3, 5, 5), 12);
    isGate(p, 6, 3, 5, 5);
    CHECK.due("SAME(12, 0)", p.gate(3, 12, 0), 14);
    isGate(p, 7, 3, 0, 12);
    CHECK.due("b->a is -AND(b, -a)", Check.readText(p, "b->a"), 17);
    isGate(p, 8, 2, 3, 4);
    CHECK.due("b|a is -AND(-b, -a)", Check.readText(p, "b|a"), 19);
    isGate(p, 9, 2, 3, 5);
  }

  private static void inputMadeIfThereIsNone() {
    CHECK.sentence("a NAME its INPUT's LITERAL, made when it is read and there is none");
    DilemmaProver p = Check.having("a");
    CHECK.due("again", p.read(), 2);
    CHECK.due("none more is made", p.count(1), 1);
    CHECK.due("twice in one text", Check.readText(p, "b<->b"), 6);
    CHECK.due("one is made", p.count(1), 2);
    CHECK.due("ab is neither a nor b", Check.readText(p, "ab"), 8);
    CHECK.due("a1 is not a", Check.readText(p, "a1"), 10);
    CHECK.due("inputs", p.count(1), 4);
    CHECK.due("a still", Check.readText(p, "a"), 2);
    p.clear();
    CHECK.due("behind clear() there is none", Check.readText(p, "b"), 2);
    CHECK.due("it is the first then", p.sign(1, 0), 'b');
  }

  private static void gateMadeWhenBothHaveBeenRead() {
    CHECK.sentence("made when both have been read");
    for (String sign : new String[] {"&", "|", "^", "->", "<->"}) {
      DilemmaProver p = reads("a" + sign + "b", READ, -1);
      kinds(p, 0, 1, 1, sign.equals("^") || sign.equals("<->") ? 3 : 2);
      p = reads("a" + sign, 2, 1 + sign.length());
      kinds(p, 0, 1);
      p = reads("a" + sign + "(b&c)", READ, -1);
      CHECK.due("the right side's gate is made first", p.variable(4, 1), 4);
      CHECK.due("then that of both", p.count(2), 2);
      p = reads("a" + sign + "(b&c", 2, 5 + sign.length());
      CHECK.due("without its bracket the right side has not been read", p.count(2), 1);
    }
  }

  private static void oneGateOfOneKind() {
    CHECK.sentence("of one kind and the same two LITERALS there is one GATE");
    DilemmaProver p = Check.having("a&b");
    int[] sames = {
      Check.readText(p, "b&a"), p.gate(2, 2, 4), p.gate(2, 4, 2),
      Check.readText(p, "~(~a|~b)"), Check.readText(p, "~(b->~a)"), Check.readText(p, "~(a->~b)")
    };
    for (int literal : sames) {
      CHECK.due("AND(a, b)", literal, 6);
    }
    CHECK.due("one gate", p.count(2), 1);
    CHECK.due("another kind is another gate", Check.readText(p, "a<->b"), 8);
    CHECK.due("a^b is that one turned", Check.readText(p, "b^a"), 9);
    CHECK.due("another literal is another gate", p.gate(2, 3, 4), 10);
    CHECK.due("and another", p.gate(2, 2, 5), 12);
    CHECK.due("and both turned", p.gate(2, 3, 5), 14);
    CHECK.due("SAME of both turned is another one, too", p.gate(3, 3, 5), 16);
    p.join(2, 4);
    CHECK.due("literals of one class are not the same", p.gate(2, 2, 2), 18);
    CHECK.due("gates", p.count(2), 7);
  }

  private static void nothingIsMadeSimpler() {
    CHECK.sentence("Nothing is made simpler: AND(0, 0) is a GATE");
    isRead("true&true", 2);
    isRead("true&false", 2);
    isRead("false|false", 3);
    isRead("true<->true", 2);
    isRead("true^false", 3);
    isRead("a&a", 4);
    isRead("a&~a", 4);
    isRead("a&true", 4);
    isRead("a<->a", 4);
    isRead("a->a", 5);
    DilemmaProver p = new DilemmaProver();
    CHECK.due("gate(AND, 0, 0)", p.gate(2, 0, 0), 2);
    CHECK.due("gate(SAME, 1, 1)", p.gate(3, 1, 1), 4);
    CHECK.due("gate(AND, 1, 1)", p.gate(2, 1, 1), 6);
    isGate(p, 3, 2, 1, 1);
    CHECK.due("a turned one makes none", Check.readText(p, "~~~true"), 1);
    CHECK.due("nor does a bracket", Check.readText(p, "((false))"), 1);
    CHECK.due("gates", p.count(2), 3);
  }
}
