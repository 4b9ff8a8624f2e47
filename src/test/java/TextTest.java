/** Promises 1 to 4: a new object, feed, read, place. */
public final class TextTest {
  private static final Check CHECK = new Check("TextTest");

  public static void main(String[] args) {
    newObject();
    feeding();
    feedingToTheEnd();
    literals();
    strengthOfSigns();
    tokens();
    faultsOfTokens();
    faultsOfPlaces();
    faultsOfDepth();
    faultsOfInputs();
    faultsOfVariables();
    orderOfFaults();
    whatStaysAfterAFault();
    placeOfTheLatest();
    CHECK.end();
  }

  private static void newObject() {
    DilemmaProver p = new DilemmaProver();
    CHECK.due("new: place()", p.place(), -1);
    CHECK.due("new: count(0)", p.count(0), 1);
    CHECK.due("new: count(1)", p.count(1), 0);
    CHECK.due("new: count(2)", p.count(2), 0);
    CHECK.due("new: count(3)", p.count(3), 2);
    CHECK.due("new: stands(0)", p.stands(0), 0);
    CHECK.due("new: stands(1)", p.stands(1), 1);
    CHECK.due("new: stands(2)", p.stands(2), -1);
    for (int what = 0; what < 4; what++) {
      CHECK.due("new: told(" + what + ")", p.told(what), 0);
    }
    CHECK.due("new: read()", p.read(), -12);
    CHECK.due("new: place() behind read()", p.place(), 0);
    CHECK.due("new: first feed", new DilemmaProver().feed('a', 1), 1);
  }

  private static void feeding() {
    DilemmaProver p = new DilemmaProver();
    CHECK.due("feed(.., -1)", p.feed(0L, -1), -2);
    CHECK.due("feed(.., 9)", p.feed(0L, 9), -2);
    CHECK.due("feed(.., least)", p.feed(0L, Integer.MIN_VALUE), -2);
    CHECK.due("feed(.., most)", p.feed(0L, Integer.MAX_VALUE), -2);
    CHECK.due("feed 3", p.feed(Check.bytes("a&b"), 3), 3);
    CHECK.due("feed the lowest only", p.feed(Check.bytes("xyz&c"), 2), 5);
    CHECK.due("read a&b&c", p.read(), 10);
    CHECK.due("inputs", p.count(1), 3);
    CHECK.due("feed 8", p.feed(Check.bytes("|a|b|c|d"), 8), 13);
    CHECK.due("feed nothing: empty", p.feed(-1L, 0), 0);
    CHECK.due("read an empty text", p.read(), -12);
    CHECK.due("feed high bytes", p.feed(-1L, 8), 8);
    CHECK.due("read high bytes", p.read(), -11);
  }

  private static void feedingToTheEnd() {
    DilemmaProver p = new DilemmaProver();
    for (int i = 1; i <= 374; i++) {
      CHECK.due("feed 8 spaces", p.feed(Check.bytes("        "), 8), 8 * i);
    }
    CHECK.due("feed to 2999", p.feed(Check.bytes("      z"), 7), 2999);
    CHECK.due("feed 2 too many", p.feed(Check.bytes("&b"), 2), -4);
    CHECK.due("-2 ahead of -4", p.feed(0L, 9), -2);
    CHECK.due("a refusal changes nothing", p.feed(Check.bytes("1"), 1), 3000);
    CHECK.due("feed 1 too many", p.feed('a', 1), -4);
    CHECK.due("feed 8 too many", p.feed('a', 8), -4);
    CHECK.due("read the full text", p.read(), 2);
    CHECK.due("its name's end", p.sign(1, 1), '1');
    CHECK.due("empty again", p.feed(0L, 0), 0);
    CHECK.due("feed again", p.feed('a', 1), 1);
  }

  private static void reads(String text, int literal) {
    DilemmaProver p = new DilemmaProver();
    CHECK.due("read " + text, Check.readText(p, text), literal);
    CHECK.due("place behind " + text, p.place(), -1);
  }

  private static void faults(String text, int fault, int place) {
    DilemmaProver p = new DilemmaProver();
    CHECK.due("read " + text, Check.readText(p, text), -10 - fault);
    CHECK.due("place behind " + text, p.place(), place);
  }

  /** Reads a formula and looks at the kind and the literals of its gates, inputs left out. */
  private static void makes(String text, int literal, int... gates) {
    DilemmaProver p = new DilemmaProver();
    CHECK.due("read " + text, Check.readText(p, text), literal);
    CHECK.due(text + ": gates", p.count(2), gates.length / 3);
    int v = 0;
    for (int i = 0; i + 2 < gates.length; i += 3) {
      do {
        v++;
      } while (p.variable(v, 0) == 1);
      for (int what = 0; what < 3; what++) {
        CHECK.due(text + ": variable(" + v + ", " + what + ")", p.variable(v, what), gates[i + what]);
      }
    }
  }

  private static void literals() {
    reads("true", 0);
    reads("false", 1);
    reads("~true", 1);
    reads("~~false", 1);
    reads("a", 2);
    reads("~a", 3);
    reads("((a))", 2);
    makes("a&b", 6, 2, 2, 4);
    makes("a|b", 7, 2, 3, 5);
    makes("a->b", 7, 2, 2, 5);
    makes("a<->b", 6, 3, 2, 4);
    makes("a^b", 7, 3, 2, 4);
    makes("true&true", 2, 2, 0, 0);
    makes("false|false", 3, 2, 0, 0);
    makes("a&a", 4, 2, 2, 2);
    makes("~a<->a", 4, 3, 2, 3);
    makes("(a&b)|(b&a)", 9, 2, 2, 4, 2, 7, 7);
    makes("(a^b)&(b<->a)", 8, 3, 2, 4, 2, 6, 7);
    makes("(a&b)^(a<->b)", 11, 2, 2, 4, 3, 2, 4, 3, 6, 8);
    makes("~(a->b)", 6, 2, 2, 5);
    makes("b->a", 7, 2, 2, 5);
  }

  private static void strengthOfSigns() {
    makes("a&b&c", 10, 2, 2, 4, 2, 6, 8);
    makes("a|b|c", 11, 2, 3, 5, 2, 6, 9);
    makes("a^b^c", 11, 3, 2, 4, 3, 7, 8);
    makes("a<->b<->c", 10, 3, 2, 4, 3, 6, 8);
    makes("a->b->c", 11, 2, 4, 7, 2, 2, 8);
    makes("(a->b)->c", 11, 2, 2, 5, 2, 7, 9);
    makes("a^b&c", 11, 2, 4, 6, 3, 2, 8);
    makes("a&b^c", 11, 2, 2, 4, 3, 6, 8);
    makes("a|b^c", 11, 3, 4, 6, 2, 3, 8);
    makes("a->b|c", 11, 2, 5, 7, 2, 2, 8);
    makes("a|b->c", 11, 2, 3, 5, 2, 7, 9);
    makes("a<->b->c", 10, 2, 4, 7, 3, 2, 9);
    makes("a->b<->c", 10, 2, 2, 5, 3, 7, 8);
    makes("~a&b", 6, 2, 3, 4);
    makes("~(a&b)", 7, 2, 2, 4);
  }

  private static void tokens() {
    reads(" \t\n\ra \t\n\r", 2);
    reads("a\n&\r~\tb", 6);
    reads("truea", 2);
    reads("true1", 2);
    reads("tru", 2);
    reads("falsey", 2);
    reads("fals", 2);
    reads("abcdef", 2);
    reads("a12345", 2);
    reads("z9", 2);
    reads("a<->b", 6);
    reads("true->false", 3);
    DilemmaProver p = new DilemmaProver();
    CHECK.due("a&a1&a&a1", Check.readText(p, "a&a1&(a&a1)"), 8);
    CHECK.due("two inputs", p.count(1), 2);
  }

  private static void faultsOfTokens() {
    faults("$", 1, 0);
    faults("A", 1, 0);
    faults("1a", 1, 0);
    faults("  1", 1, 2);
    faults("abcdefg", 1, 0);
    faults("a & abcdefg & $", 1, 4);
    faults("a12345b", 1, 0);
    faults("a - b", 1, 2);
    faults("a-", 1, 1);
    faults("a<-b", 1, 1);
    faults("a<", 1, 1);
    faults("a<>b", 1, 1);
    faults("a<-", 1, 1);
    faults("a>b", 1, 1);
    faults("a- >b", 1, 1);
    faults("a=b", 1, 1);
    faults("a\f", 1, 1);
    faults("a\u000b&b", 1, 1);
    faults("a\0", 1, 1);
    faults("a\u00e4", 1, 1);
    faults("a $", 1, 2);
    faults("(a $", 1, 3);
    faults("a_b", 1, 1);
    faults("`", 1, 0);
    faults("{", 1, 0);
    faults("a & [", 1, 4);
  }

  private static void faultsOfPlaces() {
    faults("", 2, 0);
    faults("   ", 2, 3);
    faults("a&", 2, 2);
    faults("a& ", 2, 3);
    faults("a b", 2, 2);
    faults("a true", 2, 2);
    faults("a(b)", 2, 1);
    faults("a~b", 2, 1);
    faults("&a", 2, 0);
    faults("a&&b", 2, 2);
    faults("a->->b", 2, 3);
    faults("a<-><->b", 2, 4);
    faults("()", 2, 1);
    faults("(a", 2, 2);
    faults("(a  ", 2, 4);
    faults("a)", 2, 1);
    faults("(a))", 2, 3);
    faults("(a b)", 2, 3);
    faults("~", 2, 1);
    faults("~)", 2, 1);
    faults("a|", 2, 2);
    faults("a^|b", 2, 2);
    faults("true false", 2, 5);
  }

  private static void faultsOfDepth() {
    reads(Check.repeat("~", 40) + "a", 2);
    faults(Check.repeat("~", 41) + "a", 3, 40);
    reads(Check.repeat("(", 40) + "a" + Check.repeat(")", 40), 2);
    faults(Check.repeat("(", 41), 3, 40);
    faults(Check.repeat("~(", 20) + "(a", 3, 40);
    reads(Check.repeat("~(", 20) + "a" + Check.repeat(")", 20), 2);
    reads(Check.repeat("true->", 40) + "true", 81);
    faults(Check.repeat("true->", 41) + "true", 3, 40 * 6 + 4);
    reads("(" + Check.repeat("~", 39) + "a)&" + Check.repeat("~", 40) + "a", 4);
    reads("~" + Check.repeat("(", 39) + "a" + Check.repeat(")", 39) + "&" + Check.repeat("~", 40) + "a", 4);
    faults(Check.repeat("(", 39) + "a->~b", 3, 39 + 3);
    faults(Check.repeat("(", 40) + "a->b", 3, 41);
    faults("a->" + Check.repeat("~", 40) + "a", 3, 3 + 39);
    reads("(a->a)<->" + Check.repeat("~", 40) + "a", 6);
    reads("a->a<->" + Check.repeat("~", 40) + "a", 6);
    faults(Check.repeat("(", 40) + "a(", 2, 41);
    faults(Check.repeat("~", 41) + "$", 3, 40);
    DilemmaProver p = new DilemmaProver();
    Check.readText(p, Check.repeat("(", 41));
    CHECK.due("nothing is open in the next read()", Check.readText(p, Check.repeat("~", 40) + "a"), 2);
  }

  private static void faultsOfInputs() {
    String all = Check.names(24, "&");
    DilemmaProver p = new DilemmaProver();
    CHECK.holds("24 inputs are read", Check.readText(p, all) > 0);
    CHECK.due("inputs", p.count(1), 24);
    CHECK.due("an input that there is", Check.readText(p, Check.name(23)), 2 * p.count(0) - 4);
    CHECK.due("the 25th", Check.readText(p, " zz"), -14);
    CHECK.due("its place", p.place(), 1);
    CHECK.due("inputs still", p.count(1), 24);
    faults(all + "&zz&$", 4, all.length() + 1);
    faults(all + "&true&zz$", 4, all.length() + 6);
  }

  /** A prover with as many variables as wanted, two of them inputs (a and b). */
  private static DilemmaProver filled(int variables) {
    DilemmaProver p = new DilemmaProver();
    Check.readText(p, "a<->b");
    while (p.count(0) < variables) {
      p.gate(2, 0, 2 * p.count(0) - 2);
    }
    return p;
  }

  private static void refuses(DilemmaProver p, String text, int fault, int place) {
    CHECK.due("full: read " + text, Check.readText(p, text), -10 - fault);
    CHECK.due("full: place behind " + text, p.place(), place);
  }

  private static void faultsOfVariables() {
    DilemmaProver p = filled(120);
    CHECK.due("full", p.count(0), 120);
    refuses(p, "c", 5, 0);
    refuses(p, "a & b", 5, 2);
    refuses(p, "a | b", 5, 2);
    refuses(p, "a -> b", 5, 2);
    refuses(p, "~a <-> b", 5, 3);
    refuses(p, "(b ^ true)", 5, 3);
    CHECK.due("full: a gate that there is", Check.readText(p, "b<->a"), 6);
    CHECK.due("full: a gate that there is, turned", Check.readText(p, "b^a"), 7);
    CHECK.due("full: place", p.place(), -1);
    DilemmaProver q = filled(119);
    CHECK.due("the last variable", Check.readText(q, "a&b"), 238);
    refuses(q, "a&b&a", 5, 3);
  }

  private static void orderOfFaults() {
    DilemmaProver p = filled(120);
    refuses(p, "a&b$", 5, 1);
    refuses(p, "a&b c", 5, 1);
    refuses(p, "a^b^a$", 1, 5);
    refuses(p, "a|b$", 1, 3);
    refuses(p, "a|b a", 5, 1);
    refuses(p, "a->b$", 1, 4);
    refuses(p, "a->b)", 5, 1);
    refuses(p, "~a<->b$", 1, 6);
    refuses(p, "a->b->a", 5, 4);
    refuses(p, "a|a&b", 5, 3);
    refuses(p, "c$", 5, 0);
    refuses(p, "a&c", 5, 2);
    DilemmaProver q = new DilemmaProver();
    Check.readText(q, Check.names(24, "<->"));
    while (q.count(0) < 120) {
      q.gate(2, 0, 2 * q.count(0) - 2);
    }
    refuses(q, "zz", 4, 0);
  }

  private static void whatStaysAfterAFault() {
    DilemmaProver p = new DilemmaProver();
    CHECK.due("a&b c", Check.readText(p, "a&b c"), -12);
    CHECK.due("a, b and their gate stay", p.count(0), 4);
    CHECK.due("they are alone", p.count(3), 8);
    CHECK.due("a|c$", Check.readText(p, "a|c$"), -11);
    CHECK.due("c stays, no gate was made", p.count(0), 5);
    CHECK.due("c", p.variable(4, 0), 1);
    CHECK.due("d&", Check.readText(p, "d&"), -12);
    CHECK.due("d stays", p.count(1), 4);
    CHECK.due("the text stays", p.read(), -12);
    CHECK.due("nothing more is made", p.count(0), 6);
  }

  private static void placeOfTheLatest() {
    DilemmaProver p = new DilemmaProver();
    Check.readText(p, "a $");
    CHECK.due("place", p.place(), 2);
    CHECK.due("place again", p.place(), 2);
    p.feed(0L, 0);
    p.clear();
    p.forget();
    CHECK.due("place is of the latest read()", p.place(), 2);
    Check.readText(p, "a");
    CHECK.due("place behind a good read()", p.place(), -1);
  }
}
