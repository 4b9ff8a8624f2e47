/** The edges of the faults 1 to 5: the last text without one, the first with one, and its place. */
public final class FaultsEdgeTest {
  private static final Check CHECK = new Check("FaultsEdgeTest");
  private static final String[] TWO = {"&", "|", "^", "->", "<->"};

  public static void main(String[] args) {
    firstMetInReading();
    endStandsAtItsLength();
    noTokenBeginsThere();
    cannotStandAtTheBeginning();
    cannotStandBehindAnOperand();
    bracketsThatDoNotFit();
    the41stBracket();
    the41stNot();
    the41stImplication();
    the41stOfAllTogether();
    openTillTheyHaveEnded();
    the25thInput();
    the120thVariableAtAName();
    the120thVariableAtASign();
    behind4();
    variablesMadeTillThenStay();
    CHECK.end();
  }

  private static String few(String text) {
    return "\"" + (text.length() > 70 ? text.substring(0, 30) + " .. " + text.substring(text.length() - 30) : text) + "\"";
  }

  private static void good(DilemmaProver p, String text) {
    int answer = Check.readText(p, text);
    CHECK.holds(few(text) + " is read (" + answer + ")", answer >= 0);
    CHECK.due(few(text) + ": place()", p.place(), -1);
  }

  private static void bad(DilemmaProver p, String text, int fault, int place) {
    CHECK.due(few(text), Check.readText(p, text), -10 - fault);
    CHECK.due(few(text) + ": place()", p.place(), place);
  }

  private static void good(String text) {
    good(new DilemmaProver(), text);
  }

  private static void bad(String text, int fault, int place) {
    bad(new DilemmaProver(), text, fault, place);
  }

  private static String nots(int n) {
    return Check.repeat("~", n);
  }

  private static String opened(int n) {
    return Check.repeat("(", n);
  }

  private static String closed(int n) {
    return Check.repeat(")", n);
  }

  private static void firstMetInReading() {
    CHECK.sentence("FAULTS, the first met in reading, token by token as wanted");
    bad("a b $", 2, 2);
    bad("a $ b", 1, 2);
    bad(") $", 2, 0);
    bad("$ )", 1, 0);
    bad("a & $ & abcdefg", 1, 4);
    bad("a & abcdefg & $", 1, 4);
    bad("(a $", 1, 3);
    bad("(a b", 2, 3);
    bad("~$", 1, 1);
    bad(nots(41) + "$", 3, 40);
    bad(nots(40) + "$", 1, 40);
    bad(nots(40) + ")" + nots(2), 2, 40);
    bad("a" + opened(41), 2, 1);
    bad("a->" + Check.repeat("->", 41), 2, 3);
    String inputs = Check.names(24, "&");
    bad(inputs + "&zz&$", 4, inputs.length() + 1);
    bad(inputs + "&$&zz", 1, inputs.length() + 1);
    bad(inputs + " zz", 2, inputs.length() + 1);
    bad(inputs + "&abcdefg", 1, inputs.length() + 1);
    DilemmaProver full = Check.filled("a&b", 120);
    bad(full, "a zz", 2, 2);
    bad(full, "zz a", 5, 0);
    bad(full, "a|b|$", 5, 1);
    bad(full, "a|$|b", 1, 2);
    bad(full, "a|", 2, 2);
  }

  private static void endStandsAtItsLength() {
    CHECK.sentence("the text's end stands at its length");
    bad("", 2, 0);
    bad(" ", 2, 1);
    bad("\t\n\r ", 2, 4);
    bad("~", 2, 1);
    bad("(", 2, 1);
    bad("(a", 2, 2);
    bad("(a  ", 2, 4);
    bad("~ \n", 2, 3);
    for (String sign : TWO) {
      bad("a" + sign, 2, 1 + sign.length());
      bad("a " + sign + "  ", 2, 4 + sign.length());
    }
    bad(Check.repeat(" ", 3000), 2, 3000);
    bad("a&" + Check.repeat(" ", 2998), 2, 3000);
    bad(Check.repeat(" ", 2999) + "(", 2, 3000);
  }

  private static void noTokenBeginsThere() {
    CHECK.sentence("1 no token begins there (a NAME that is too long, too)");
    bad("A", 1, 0);
    bad("9", 1, 0);
    bad("  0a", 1, 2);
    bad("a\0", 1, 1);
    bad("a\u00ff", 1, 1);
    bad("a-", 1, 1);
    bad("a<-", 1, 1);
    bad("abcdefg", 1, 0);
    bad(" abcdefg", 1, 1);
    bad("a|abcdef0", 1, 2);
    bad("abcdefg$", 1, 0);
    good("abcdef");
    // A name of true and more is too long as a whole: true alone is no token there.
    bad("true123", 1, 0);
    bad("a trueabc", 1, 2);
  }

  private static void cannotStandAtTheBeginning() {
    CHECK.sentence("2 it cannot stand there (where a not is wanted)");
    String[] wrong = {")", "&", "|", "^", "->", "<->", ""};
    String[] fronts = {"", "(", "~", "a&", "a|", "a^", "a->", "a<->", "a&(", "~(", "a&~"};
    for (String front : fronts) {
      for (String token : wrong) {
        bad(front + token, 2, front.length());
        bad(front + " " + token, 2, front.length() + 1);
      }
      for (String token : new String[] {"a", "true", "false", "~a"}) {
        String back = front.contains("(") ? ")" : "";
        good(front + token + back);
      }
    }
  }

  private static void cannotStandBehindAnOperand() {
    CHECK.sentence("2 it cannot stand there (behind what has ended)");
    String[] wrong = {"b", "true", "false", "(", "~"};
    String[] fronts = {"a ", "true ", "false ", "(a)", "~a ", "a&a ", "a->a ", "(a "};
    for (String front : fronts) {
      for (String token : wrong) {
        bad(front + token, 2, front.length());
      }
    }
  }

  private static void bracketsThatDoNotFit() {
    CHECK.sentence("( formula )");
    bad(")", 2, 0);
    bad("a)", 2, 1);
    bad("(a))", 2, 3);
    bad("((a)", 2, 4);
    bad("()", 2, 1);
    bad("(a&b", 2, 4);
    bad("a&(b))", 2, 5);
    bad("(a)(b)", 2, 3);
    bad(opened(40) + "a" + closed(39), 2, 80);
    bad(opened(40) + "a" + closed(41), 2, 81);
    good(opened(40) + "a" + closed(40));
  }

  private static void the41stBracket() {
    CHECK.sentence("3 at a ( ~ or -> : the 41st that is open: a ( till its )");
    for (int n : new int[] {1, 39, 40}) {
      good(opened(n) + "a" + closed(n));
    }
    for (int n : new int[] {41, 42, 100, 3000}) {
      bad(opened(n), 3, 40);
    }
    bad(opened(41) + "a" + closed(41), 3, 40);
    bad(" " + opened(40) + " " + "(", 3, 42);
    good(opened(39) + "(a)&(a)" + closed(39));
    bad(opened(39) + "(a)&((a", 3, 39 + 5);
    good(opened(40) + "a" + closed(40) + "&" + opened(40) + "a" + closed(40));
    bad(opened(40) + "a" + closed(40) + "&" + opened(41), 3, 82 + 40);
    good("(a)" + Check.repeat("&(a)", 60));
  }

  private static void the41stNot() {
    CHECK.sentence("3 .. ~ till its not");
    for (int n : new int[] {1, 39, 40}) {
      good(nots(n) + "a");
    }
    for (int n : new int[] {41, 42, 3000}) {
      bad(nots(n), 3, 40);
    }
    good(nots(40) + "a&" + nots(40) + "a");
    bad(nots(40) + "a&" + nots(41) + "a", 3, 42 + 40);
    good(nots(40) + "a->" + nots(39) + "a");
    good("~a" + Check.repeat("&~a", 60));
    good(nots(39) + "(" + "a)&" + nots(40) + "a");
    bad(nots(39) + "(~a)", 3, 40);
    good("~true" + Check.repeat("|~true", 60));
  }

  private static void the41stImplication() {
    CHECK.sentence("3 .. -> till the imp behind it have ended");
    good(Check.repeat("a->", 40) + "a");
    bad(Check.repeat("a->", 41) + "a", 3, 40 * 3 + 1);
    bad(Check.repeat("a->", 42) + "a", 3, 40 * 3 + 1);
    good(Check.repeat("a->", 40) + "a<->" + Check.repeat("a->", 40) + "a");
    bad(Check.repeat("a->", 40) + "a<->" + Check.repeat("a->", 41) + "a", 3, 40 * 3 + 4 + 40 * 3 + 1);
    good("a->(" + Check.repeat("a->", 38) + "a)");
    good("(" + Check.repeat("a->", 39) + "a)->" + Check.repeat("a->", 39) + "a");
    bad(Check.repeat("a->", 40) + "~a", 3, 120);
    bad(Check.repeat("a->", 40) + "(a)", 3, 120);
    good(Check.repeat("a->", 39) + "~a");
    // What is behind | ^ & is within the imp: the -> ahead is open still.
    bad(Check.repeat("a->", 40) + "a|~a", 3, 122);
    good("~a" + Check.repeat("<->a->a", 45));
  }

  private static void the41stOfAllTogether() {
    CHECK.sentence("3 at a ( ~ or -> : the 41st that is open");
    good(Check.repeat("~(", 20) + "a" + closed(20));
    bad(Check.repeat("~(", 20) + "~a" + closed(20), 3, 40);
    bad(Check.repeat("~(", 20) + "(a" + closed(21), 3, 40);
    bad(Check.repeat("~(", 20) + "a->b" + closed(20), 3, 41);
    good(Check.repeat("a->~(", 13) + "~a" + closed(13));
    bad(Check.repeat("a->~(", 13) + "~~a" + closed(13), 3, 66);
    good(Check.repeat("a->~(", 13) + "a->a" + closed(13));
    bad(Check.repeat("a->~(", 13) + "a->a->a" + closed(13), 3, 69);
    // The left side of -> has ended when it is met.
    good(nots(40) + "a->" + nots(39) + "a");
    good(opened(40) + "a" + closed(40) + "->" + opened(39) + "a" + closed(39));
    bad(opened(40) + "a" + closed(40) + "->" + opened(40) + "a", 3, 83 + 39);
    bad(opened(40) + "a->", 3, 41);
  }

  private static void openTillTheyHaveEnded() {
    CHECK.sentence("3 .. the 41st that is open (in one reading)");
    DilemmaProver p = new DilemmaProver();
    bad(p, nots(41), 3, 40);
    good(p, nots(40) + "a");
    bad(p, opened(40), 2, 40);
    good(p, opened(40) + "a" + closed(40));
    bad(p, Check.repeat("a->", 40), 2, 120);
    good(p, Check.repeat("a->", 40) + "a");
  }

  private static void the25thInput() {
    CHECK.sentence("4 at a NAME: the 25th INPUT");
    String all = Check.names(24, "&");
    DilemmaProver p = new DilemmaProver();
    good(p, Check.names(23, "&"));
    good(p, all);
    CHECK.due("24 inputs", p.count(1), 24);
    bad(p, "zz", 4, 0);
    bad(p, "  zz", 4, 2);
    bad(p, Check.name(0) + "&~(zz", 4, Check.name(0).length() + 3);
    good(p, all);
    good(p, Check.name(23));
    CHECK.due("24 still", p.count(1), 24);
    bad(Check.names(25, "&"), 4, all.length() + 1);
    bad(Check.names(25, "|"), 4, all.length() + 1);
    bad(all + "&true&false&zz", 4, all.length() + 12);
    p.clear();
    good(p, Check.names(24, "^"));
    bad(p, "zz", 4, 0);
  }

  private static void the120thVariableAtAName() {
    CHECK.sentence("5 at a NAME: the VARIABLE with the number 120 would be made by it");
    DilemmaProver p = Check.filled("a", 119);
    good(p, "b");
    CHECK.due("the last variable is an input", p.variable(119, 0), 1);
    CHECK.due("and has a name", p.sign(119, 0), 'b');
    bad(p, "c", 5, 0);
    bad(p, "~(c", 5, 2);
    bad(p, "a&c", 5, 2);
    good(p, "b");
    good(p, "a");
    CHECK.due("variables", p.count(0), 120);
    p.clear();
    good(p, "c&d");
  }

  private static void the120thVariableAtASign() {
    CHECK.sentence("5 at the sign of two: the VARIABLE with the number 120 would be made by it");
    for (String sign : TWO) {
      DilemmaProver p = Check.filled("a&b", 119);
      good(p, "b" + sign + "~b");
      CHECK.due("the last variable is a gate", p.count(0), 120);
      good(p, "b" + sign + "~b");
      bad(p, "a " + sign + " a", 5, 2);
      bad(p, "(b" + sign + "~b)" + sign + "a", 5, 5 + sign.length());
      bad(p, "a" + sign + "(b" + sign + "~b)", 5, 1);
      CHECK.due("variables", p.count(0), 120);
    }
    DilemmaProver p = Check.filled("a&b", 120);
    good(p, "b&a");
    good(p, "a->~b");
    bad(p, "a->b->a", 5, 4);
    bad(p, "a^b^a", 5, 1);
    bad(p, "a|b&a|b", 5, 1);
    bad(p, "a|~a&b", 5, 4);
  }

  private static void behind4() {
    CHECK.sentence("5 at a NAME (behind 4)");
    DilemmaProver p = Check.filled(Check.names(24, "&"), 120);
    CHECK.due("inputs", p.count(1), 24);
    CHECK.due("variables", p.count(0), 120);
    bad(p, "zz", 4, 0);
    bad(p, "zz&zz", 4, 0);
    bad(p, Check.name(0) + "|" + Check.name(1), 5, Check.name(0).length());
    DilemmaProver q = Check.filled(Check.names(23, "&"), 120);
    bad(q, "zz", 5, 0);
    DilemmaProver r = Check.filled(Check.names(24, "&"), 119);
    bad(r, "zz", 4, 0);
  }

  private static void stays(DilemmaProver p, String text, int fault, int variables, int inputs) {
    CHECK.due(few(text), Check.readText(p, text), -10 - fault);
    CHECK.due(few(text) + ": variables", p.count(0), variables);
    CHECK.due(few(text) + ": inputs", p.count(1), inputs);
  }

  private static void variablesMadeTillThenStay() {
    CHECK.sentence("With a fault VARIABLES that were made till then stay");
    stays(Check.given(""), "a&b&$", 1, 4, 2);
    stays(Check.given(""), "a&b&)", 2, 4, 2);
    stays(Check.given(""), "a&b&" + nots(41), 3, 4, 2);
    stays(Check.given(""), "a&(b<->c)&d)", 2, 8, 4);
    stays(Check.given(""), Check.names(25, "&"), 4, 1 + 24 + 23, 24);
    stays(Check.filled("a", 117), "b&c&a", 5, 120, 3);
    stays(Check.filled("a", 118), "b&c&a", 5, 120, 3);
    stays(Check.filled("a", 119), "b&c&a", 5, 120, 2);
    stays(Check.given(""), "$a", 1, 1, 0);
    stays(Check.given(""), "a abcdefg", 1, 2, 1);
    DilemmaProver p = Check.having("a&b");
    p.join(2, 4);
    stays(p, "c&d $", 1, 7, 4);
    CHECK.due("the new ones are alone", p.count(3), 12);
    CHECK.due("what was joined stays so", p.stands(4), 2);
    CHECK.due("c", p.sign(4, 0), 'c');
    CHECK.due("they are found again", Check.readText(p, "c&d"), 12);
    CHECK.due("the text stays, too", p.read(), 12);
  }
}
