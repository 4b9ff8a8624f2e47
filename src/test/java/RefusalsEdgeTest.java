import java.util.function.ToIntFunction;

/** "ANSWERS below 0 are refusals and change nothing but as told", "the first that fits". */
public final class RefusalsEdgeTest {
  private static final Check CHECK = new Check("RefusalsEdgeTest");
  private static final int LEAST = Integer.MIN_VALUE;

  public static void main(String[] args) {
    changeNothing();
    changeNothingInAContradiction();
    changeNothingInAFullRoom();
    changeNothingButAsTold();
    theFirstThatFits();
    CHECK.end();
  }

  /** A prover in which all that a call could change is not as it is in a new one. */
  private static DilemmaProver inUse() {
    DilemmaProver p = Check.having("(a|b)&(a|~b)");
    p.join(2 * p.count(0) - 2, 0);
    p.saturate(1, 100);
    p.gate(3, 4, 2);
    p.join(4, 6);
    Check.readText(p, "a&b c");
    return p;
  }

  /**
   * Makes a call on one of two provers that are alike, and looks whether they are so still. The text
   * is asked for at the end, by what more bytes and a reading answer.
   */
  private static void refused(
      String call, DilemmaProver p, DilemmaProver other, ToIntFunction<DilemmaProver> made, int due) {
    String before = Check.seen(other);
    CHECK.due(call, made.applyAsInt(p), due);
    CHECK.due("seen behind " + call, Check.seen(p), before);
    CHECK.due("feed() behind " + call, p.feed(Check.bytes("&d"), 2), other.feed(Check.bytes("&d"), 2));
    CHECK.due("read() behind " + call, p.read(), other.read());
    CHECK.due("seen at the end, behind " + call, Check.seen(p), Check.seen(other));
  }

  private static void refused(String call, ToIntFunction<DilemmaProver> made, int due) {
    refused(call, inUse(), inUse(), made, due);
  }

  private static void changeNothing() {
    CHECK.sentence("ANSWERS below 0 are refusals and change nothing but as told");
    int none = 2 * inUse().count(0);
    refused("feed(.., 9)", p -> p.feed('e', 9), -2);
    refused("feed(.., -1)", p -> p.feed('e', -1), -2);
    refused("count(4)", p -> p.count(4), -2);
    refused("variable(none, 0)", p -> p.variable(none / 2, 0), -1);
    refused("variable(0, 3)", p -> p.variable(0, 3), -2);
    refused("gate(2, none, 0)", p -> p.gate(2, none, 0), -1);
    refused("gate(2, 0, none)", p -> p.gate(2, 0, none), -1);
    refused("gate(4, 0, 0)", p -> p.gate(4, 0, 0), -2);
    refused("gate(1, 0, 0)", p -> p.gate(1, 0, 0), -2);
    refused("sign(0, 0)", p -> p.sign(0, 0), -1);
    refused("sign(1, 1)", p -> p.sign(1, 1), -1);
    refused("join(none, 4)", p -> p.join(none, 4), -1);
    refused("join(4, none)", p -> p.join(4, none), -1);
    refused("stands(none)", p -> p.stands(none), -1);
    refused("saturate(5, 9)", p -> p.saturate(5, 9), -2);
    refused("saturate(1, 5001)", p -> p.saturate(1, 5001), -2);
    refused("prove(none, 0, 9)", p -> p.prove(none, 0, 9), -1);
    refused("prove(0, 5, 9)", p -> p.prove(0, 5, 9), -2);
    refused("prove(0, 0, -1)", p -> p.prove(0, 0, -1), -2);
    refused("told(4)", p -> p.told(4), -2);
    refused("value(none, 0)", p -> p.value(none, 0), -1);
    refused("value(0, 4)", p -> p.value(0, 4), -2);
    refused("model(none)", p -> p.model(none), -1);
    refused("model(0)", p -> p.model(0), -7);
    refused("alike(none, 0)", p -> p.alike(none, 0), -1);
    refused("alike(0, least)", p -> p.alike(0, LEAST), -1);
  }

  private static DilemmaProver contradicted() {
    DilemmaProver p = inUse();
    p.join(2, 3);
    return p;
  }

  private static void changeNothingInAContradiction() {
    CHECK.sentence("-3 not in this state");
    refused("count(3)", contradicted(), contradicted(), p -> p.count(3), -3);
    refused("join(4, 6)", contradicted(), contradicted(), p -> p.join(4, 6), -3);
    refused("stands(0)", contradicted(), contradicted(), p -> p.stands(0), -3);
    refused("saturate(1, 99)", contradicted(), contradicted(), p -> p.saturate(1, 99), -3);
  }

  private static DilemmaProver crowded() {
    return Check.having(Check.names(15, "&") + " c");
  }

  private static DilemmaProver fullOfText() {
    DilemmaProver p = Check.given("a&b" + Check.repeat(" ", 2995));
    p.read();
    return p;
  }

  private static void changeNothingInAFullRoom() {
    CHECK.sentence("-4 no room");
    refused("feed(.., 3)", fullOfText(), fullOfText(), p -> p.feed(Check.bytes("&cc"), 3), -4);
    refused("feed(.., 8)", fullOfText(), fullOfText(), p -> p.feed(Check.bytes("&ccccccc"), 8), -4);
    refused("model(2)", crowded(), crowded(), p -> p.model(2), -4);
    refused("alike(2, 4)", crowded(), crowded(), p -> p.alike(2, 4), -4);
    DilemmaProver full = Check.filled("a&b", 120);
    full.join(238, 2);
    CHECK.due("gate", full.gate(3, 2, 4), -4);
    CHECK.due("variables", full.count(0), 120);
    CHECK.due("classes", full.count(3), 238);
    CHECK.due("the last one", full.variable(119, 0), 2);
    CHECK.due("what it is joined with", full.stands(238), 2);
    CHECK.due("the first gate", full.variable(3, 2), 4);
  }

  private static void changeNothingButAsTold() {
    CHECK.sentence("change nothing but as told: -6 (the EQUIVALENCE stays as it was), -5, faults, forget()");
    DilemmaProver p = inUse();
    // A free input, so that there is a dilemma to be tried, and rules that would tell something.
    Check.readText(p, "e");
    String before = classes(p);
    CHECK.due("saturate", p.saturate(2, 1), -6);
    CHECK.due("classes behind -6", classes(p), before);
    CHECK.due("told behind -6", p.told(0), 1);
    CHECK.due("prove", p.prove(2, 2, 2), -6);
    CHECK.due("classes behind -6 of prove()", classes(p), before);
    CHECK.due("told behind -6 of prove()", p.told(0), 2);
    CHECK.due("prove", p.prove(1, 0, 1), -5);
    CHECK.due("classes behind -5", classes(p), before);
    CHECK.due("told behind -5", p.told(1) >= 1 ? 1 : 0, 1);
    CHECK.due("a fault", Check.readText(p, "a&b $"), -11);
    CHECK.due("nothing is made of what there is", classes(p), before);
    CHECK.due("its place", p.place(), 4);
    p.join(0, 1);
    CHECK.due("forget", p.forget(), -3);
    CHECK.due("each is alone", p.count(3), 2 * p.count(0));
  }

  private static String classes(DilemmaProver p) {
    StringBuilder all = new StringBuilder();
    for (int l = 0; l < 2 * p.count(0); l++) {
      all.append(p.stands(l)).append(" ");
    }
    return all.toString();
  }

  private static void theFirstThatFits() {
    CHECK.sentence("the first that fits");
    CHECK.due("feed: -2, -4", fullOfText().feed(0L, 9), -2);
    CHECK.due("variable: -1, -2", inUse().variable(-1, 3), -1);
    DilemmaProver full = Check.filled("a&b", 120);
    CHECK.due("gate: -1, -2, -4", full.gate(4, 240, 0), -1);
    CHECK.due("gate: -1, -4", full.gate(2, 0, 240), -1);
    CHECK.due("gate: -2, -4", full.gate(4, 0, 239), -2);
    DilemmaProver p = contradicted();
    int none = 2 * p.count(0);
    CHECK.due("count: -2 in a contradiction", p.count(4), -2);
    CHECK.due("join: -1, -3", p.join(none, 0), -1);
    CHECK.due("join: -1, -3", p.join(0, none), -1);
    CHECK.due("stands: -1, -3", p.stands(none), -1);
    CHECK.due("saturate: -2, -3", p.saturate(5, 0), -2);
    CHECK.due("saturate: -2, -3, of steps", p.saturate(0, 5001), -2);
    CHECK.due("saturate: -3, -6", p.saturate(0, 0), -3);
    CHECK.due("prove: -1, -2, -6", p.prove(none, 5, 0), -1);
    CHECK.due("prove: -1, -6", p.prove(none, 0, 0), -1);
    CHECK.due("prove: -2, -6", p.prove(0, 5, 0), -2);
    CHECK.due("prove: -6 ahead of 0", p.prove(0, 0, 0), -6);
    CHECK.due("value: -1, -2", p.value(none, -1), -1);
    DilemmaProver crowded = crowded();
    int outside = 2 * crowded.count(0);
    CHECK.due("model: -1, -4", crowded.model(outside), -1);
    CHECK.due("model: -4, -7", crowded.model(0), -4);
    CHECK.due("alike: -1, -4", crowded.alike(outside, 0), -1);
    CHECK.due("alike: -1, -4", crowded.alike(0, outside), -1);
  }
}
