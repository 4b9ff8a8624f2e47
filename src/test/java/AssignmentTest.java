/** Promises 16 to 18: value, model, alike. */
public final class AssignmentTest {
  private static final Check CHECK = new Check("AssignmentTest");
  private static final int LEAST = Integer.MIN_VALUE;
  private static final int MOST = Integer.MAX_VALUE;

  public static void main(String[] args) {
    truthTables();
    valuesOfManyInputs();
    refusalsOfValue();
    leastModels();
    modelsOfManyInputs();
    refusalsOfModel();
    likeness();
    theEquivalenceHasNoPart();
    CHECK.end();
  }

  private static void table(String text, int... values) {
    DilemmaProver p = new DilemmaProver();
    int l = Check.readText(p, text);
    for (int n = 0; n < values.length; n++) {
      CHECK.due(text + " for " + n, p.value(l, n), values[n]);
      CHECK.due("~(" + text + ") for " + n, p.value(l ^ 1, n), 1 - values[n]);
    }
    CHECK.due(text + " for one more", p.value(l, values.length), -2);
  }

  private static void truthTables() {
    table("true", 1);
    table("false", 0);
    table("a", 0, 1);
    table("~a", 1, 0);
    table("a&b", 0, 0, 0, 1);
    table("a|b", 0, 1, 1, 1);
    table("a->b", 1, 0, 1, 1);
    table("a<->b", 1, 0, 0, 1);
    table("a^b", 0, 1, 1, 0);
    table("a&true", 0, 1);
    table("a<->false", 1, 0);
    table("a^b^c", 0, 1, 1, 0, 1, 0, 0, 1);
    table("a->b->c", 1, 1, 1, 0, 1, 1, 1, 1);
  }

  private static void valuesOfManyInputs() {
    DilemmaProver p = new DilemmaProver();
    int l = Check.readText(p, Check.names(24, "&"));
    int all = (1 << 24) - 1;
    CHECK.due("all", p.value(l, all), 1);
    CHECK.due("none", p.value(l, 0), 0);
    for (int i = 0; i < 24; i++) {
      CHECK.due("all but " + i, p.value(l, all ^ 1 << i), 0);
      int input = Check.readText(p, Check.name(i));
      CHECK.due(i + " alone", p.value(input, 1 << i), 1);
      CHECK.due("all but it", p.value(input, all ^ 1 << i), 0);
    }
    CHECK.due("too far", p.value(l, all + 1), -2);
  }

  private static void refusalsOfValue() {
    DilemmaProver p = new DilemmaProver();
    CHECK.due("no inputs", p.value(0, 0), 1);
    CHECK.due("no inputs, false", p.value(1, 0), 0);
    CHECK.due("no inputs, n = 1", p.value(0, 1), -2);
    Check.readText(p, "a");
    CHECK.due("no such literal", p.value(4, 0), -1);
    CHECK.due("below 0", p.value(-1, 0), -1);
    CHECK.due("least", p.value(LEAST, 0), -1);
    CHECK.due("most", p.value(MOST, 0), -1);
    CHECK.due("-1 ahead of -2", p.value(4, 2), -1);
    CHECK.due("n = 2", p.value(2, 2), -2);
    CHECK.due("n = -1", p.value(2, -1), -2);
    CHECK.due("n least", p.value(2, LEAST), -2);
    CHECK.due("n most", p.value(2, MOST), -2);
  }

  private static void modelIs(String text, int due) {
    DilemmaProver p = new DilemmaProver();
    int l = Check.readText(p, text);
    CHECK.due("model of " + text, p.model(l), due);
  }

  private static void leastModels() {
    modelIs("true", -7);
    modelIs("false", 0);
    modelIs("a|~a", -7);
    modelIs("a", 0);
    modelIs("~a", 1);
    modelIs("a->b", 1);
    modelIs("b|~b->(a->b)", 2);
    modelIs("~(a&b&c)", 7);
    modelIs("a|b|~c", 4);
    modelIs("~a|b|~c", 5);
  }

  private static void modelsOfManyInputs() {
    for (int inputs = 5; inputs <= 14; inputs++) {
      DilemmaProver p = new DilemmaProver();
      int l = Check.readText(p, Check.names(inputs, "&"));
      int all = (1 << inputs) - 1;
      CHECK.due(inputs + " inputs: all", p.model(l ^ 1), all);
      CHECK.due(inputs + " inputs: none", p.model(l), 0);
      int last = Check.readText(p, Check.name(inputs - 1));
      CHECK.due(inputs + " inputs: the last", p.model(last ^ 1), 1 << (inputs - 1));
      CHECK.due(inputs + " inputs: true", p.model(0), -7);
      CHECK.due(inputs + " inputs: alike by all but one", p.alike(l, 1), 0);
      CHECK.due(inputs + " inputs: alike", p.alike(p.gate(2, l, l), l), 1);
    }
  }

  private static void refusalsOfModel() {
    DilemmaProver p = new DilemmaProver();
    CHECK.due("no such literal", p.model(2), -1);
    CHECK.due("below 0", p.model(-1), -1);
    CHECK.due("least", p.model(LEAST), -1);
    CHECK.due("most", p.model(MOST), -1);
    Check.readText(p, Check.names(15, "&"));
    CHECK.due("15 inputs", p.model(0), -4);
    CHECK.due("15 inputs, of an input", p.model(2), -4);
    CHECK.due("15 inputs, alike", p.alike(0, 0), -4);
    CHECK.due("-1 ahead of -4", p.model(2 * p.count(0)), -1);
    CHECK.due("alike: -1 ahead of -4", p.alike(0, 2 * p.count(0)), -1);
    CHECK.due("a value is told", p.value(2, (1 << 15) - 1), 1);
    p.clear();
    CHECK.due("inputs are gone", p.model(1), 0);
  }

  private static void likeness() {
    DilemmaProver p = new DilemmaProver();
    int or = Check.readText(p, "a|b");
    int turned = Check.readText(p, "~(~b&~a)");
    int way = Check.readText(p, "~a->b");
    int xor = Check.readText(p, "a^b");
    int same = Check.readText(p, "a<->b");
    CHECK.due("one gate", p.alike(or, turned), 1);
    CHECK.due("two gates", p.alike(or, way), 1);
    CHECK.due("not alike", p.alike(or, xor), 0);
    CHECK.due("turned", p.alike(xor, same), 0);
    CHECK.due("turned again", p.alike(xor, same ^ 1), 1);
    CHECK.due("itself", p.alike(2, 2), 1);
    CHECK.due("and turned", p.alike(2, 3), 0);
    CHECK.due("true and false", p.alike(0, 1), 0);
    CHECK.due("a|~a", p.alike(Check.readText(p, "a|~a"), 0), 1);
    int none = 2 * p.count(0);
    CHECK.due("no a", p.alike(none, 0), -1);
    CHECK.due("no b", p.alike(0, none), -1);
    CHECK.due("a below 0", p.alike(-1, 0), -1);
    CHECK.due("b least", p.alike(0, LEAST), -1);
    CHECK.due("b most", p.alike(0, MOST), -1);
  }

  private static void theEquivalenceHasNoPart() {
    DilemmaProver p = new DilemmaProver();
    int l = Check.readText(p, "a&b");
    p.join(2, 4);
    p.join(l, 0);
    CHECK.due("alike", p.alike(2, 4), 0);
    CHECK.due("model", p.model(l), 0);
    CHECK.due("value", p.value(l, 1), 0);
    p.join(0, 1);
    CHECK.due("alike in a contradiction", p.alike(2, 4), 0);
    CHECK.due("value in a contradiction", p.value(l, 3), 1);
    CHECK.due("model in a contradiction", p.model(l ^ 1), 3);
  }
}
