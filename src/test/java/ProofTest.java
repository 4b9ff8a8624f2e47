/** Promises 14 and 15: prove, told. */
public final class ProofTest {
  private static final Check CHECK = new Check("ProofTest");
  private static final int LEAST = Integer.MIN_VALUE;
  private static final int MOST = Integer.MAX_VALUE;

  public static void main(String[] args) {
    depths();
    unproved();
    constants();
    theHeldOneIsNotTouched();
    refusals();
    spending();
    telling();
    likeThePlainProver(pigeons(2));
    likeThePlainProver(pigeons(3));
    likeThePlainProver("(a^b^c^d)<->(d^c^b^a)");
    likeThePlainProver("(a^b^c^d^e^f)<->(e^c^a^f^d^b)");
    likeThePlainProver("(a^b^c^d^e^f^g)<->(e^c^a^g^f^d^b)");
    likeThePlainProver("(a^b^c)<->(a&b&c|a&~b&~c|~a&b&~c|~a&~b&c)");
    likeThePlainProver("(a^b^c)<->(a&b&c|a&~b&~c|~a&b&~c|~a&b&c)");
    CHECK.end();
  }

  private static void proves(String text, int depth) {
    DilemmaProver p = new DilemmaProver();
    int l = Check.readText(p, text);
    for (int most = 0; most <= 4; most++) {
      int due = depth <= most ? depth : -5;
      CHECK.due("prove " + text + " to " + most, p.prove(l, most, 5000), due);
    }
    CHECK.due("no model of " + text, p.model(l), -7);
  }

  private static void depths() {
    proves("a|~a", 0);
    proves("a->a", 0);
    proves("true", 0);
    proves("a&b->a", 0);
    proves("((a->b)->a)->a", 0);
    proves("(a<->b)<->(b<->a)", 0);
    proves("(a|b)&(a|~b)->a", 0);
    proves("a^b<->b^a", 0);
    proves("~(((a|b)&(a|~b))&((~a|b)&(~a|~b)))", 1);
    proves("(a&b|a&c|b&c)<->((a|b)&(a|c)&(b|c))", 1);
    proves("((a<->b)<->c)<->(a<->(b<->c))", 2);
    proves("(a^b^c^d^e)<->(e^c^a^d^b)", 3);
  }

  private static void unproved() {
    DilemmaProver p = new DilemmaProver();
    int l = Check.readText(p, "a->b");
    for (int depth = 0; depth <= 4; depth++) {
      CHECK.due("a->b to " + depth, p.prove(l, depth, 5000), -5);
    }
    CHECK.due("its least model", p.model(l), 1);
    CHECK.due("nor a&~a", p.prove(Check.readText(p, "a&~a"), 2, 5000), -5);
  }

  private static void constants() {
    DilemmaProver p = new DilemmaProver();
    CHECK.due("prove true", p.prove(0, 0, 1), 0);
    CHECK.due("a step began", p.told(0), 1);
    CHECK.due("and no round", p.told(1), 0);
    CHECK.due("prove true without steps", p.prove(0, 0, 0), -6);
    CHECK.due("no step began", p.told(0), 0);
    CHECK.due("prove false", p.prove(1, 0, 1), -5);
    CHECK.due("one round", p.told(1), 1);
    CHECK.due("prove false to 4", p.prove(1, 4, 5000), -5);
    CHECK.due("a step for each depth", p.told(0), 5);
    CHECK.due("a round for each", p.told(1), 5);
    CHECK.due("a pass for each above 0", p.told(2), 4);
    CHECK.due("no branch", p.told(3), 0);
  }

  private static void theHeldOneIsNotTouched() {
    DilemmaProver p = new DilemmaProver();
    int l = Check.readText(p, "a|b");
    p.join(2, 0);
    CHECK.due("what is held does not help", p.prove(l, 4, 5000), -5);
    CHECK.due("what is held stays", p.count(3), 6);
    CHECK.due("stands(2)", p.stands(2), 0);
    CHECK.due("prove true", p.prove(0, 4, 5000), 0);
    CHECK.due("still", p.count(3), 6);
    p.join(0, 1);
    CHECK.due("in a contradiction", p.prove(l, 4, 5000), -5);
    CHECK.due("it stays", p.count(3), -3);
  }

  private static void refusals() {
    DilemmaProver p = new DilemmaProver();
    int l = Check.readText(p, "a|~a");
    p.prove(l, 0, 10);
    CHECK.due("no such literal", p.prove(6, 0, 10), -1);
    CHECK.due("below 0", p.prove(-1, 0, 10), -1);
    CHECK.due("least", p.prove(LEAST, 0, 10), -1);
    CHECK.due("most", p.prove(MOST, 0, 10), -1);
    CHECK.due("-1 ahead of -2", p.prove(6, 5, 10), -1);
    CHECK.due("depth 5", p.prove(l, 5, 10), -2);
    CHECK.due("depth -1", p.prove(l, -1, 10), -2);
    CHECK.due("depth least", p.prove(l, LEAST, 10), -2);
    CHECK.due("steps 5001", p.prove(l, 0, 5001), -2);
    CHECK.due("steps -1", p.prove(l, 0, -1), -2);
    CHECK.due("steps most", p.prove(l, 0, MOST), -2);
    CHECK.due("told stays", p.told(0), 1);
    CHECK.due("told stays", p.told(1), 1);
  }

  private static void spending() {
    DilemmaProver p = new DilemmaProver();
    int l = Check.readText(p, "(a&b|a&c|b&c)<->((a|b)&(a|c)&(b|c))");
    CHECK.due("enough", p.prove(l, 1, 5000), 1);
    int need = p.told(0);
    int[] told = {p.told(0), p.told(1), p.told(2), p.told(3)};
    CHECK.due("just enough", p.prove(l, 4, need), 1);
    for (int what = 0; what < 4; what++) {
      CHECK.due("told(" + what + ")", p.told(what), told[what]);
    }
    for (int steps = 0; steps < need; steps++) {
      CHECK.due("steps " + steps, p.prove(l, 1, steps), -6);
      CHECK.due("all of them began", p.told(0), steps);
    }
    CHECK.due("spent before the depth is known", p.prove(l, 1, 1), -6);
    CHECK.due("no pass began", p.told(2), 0);
    CHECK.due("depth 0 alone needs one", p.prove(l, 0, 1), -5);
  }

  private static void telling() {
    DilemmaProver p = new DilemmaProver();
    CHECK.due("told(4)", p.told(4), -2);
    CHECK.due("told(-1)", p.told(-1), -2);
    CHECK.due("told(least)", p.told(LEAST), -2);
    CHECK.due("told(most)", p.told(MOST), -2);
    int l = Check.readText(p, "a|b");
    // Turned, it is AND(-a, -b) = 0: one round settles all, another one sees that.
    CHECK.due("prove", p.prove(l, 1, 100), -5);
    CHECK.due("steps", p.told(0), 2);
    CHECK.due("rounds", p.told(1), 3);
    CHECK.due("passes", p.told(2), 1);
    CHECK.due("branches", p.told(3), 0);
    CHECK.due("saturate tells anew", p.saturate(0, 1), 1);
    CHECK.due("steps", p.told(0), 1);
    CHECK.due("rounds", p.told(1), 1);
    CHECK.due("passes", p.told(2), 0);
    // Three free variables, six branches; a true, a false and so on: 6 steps and the first.
    CHECK.due("saturate to 1", p.saturate(1, 100), 1);
    CHECK.due("steps", p.told(0), 7);
    CHECK.due("passes", p.told(2), 1);
  }

  /** Pigeons are one more than holes: it is not that each has a hole and no two have the same. */
  private static String pigeons(int holes) {
    StringBuilder all = new StringBuilder("~(true");
    for (int i = 0; i <= holes; i++) {
      all.append("&(false");
      for (int h = 0; h < holes; h++) {
        all.append("|p").append(i).append(h);
      }
      all.append(")");
    }
    for (int h = 0; h < holes; h++) {
      for (int i = 0; i <= holes; i++) {
        for (int j = i + 1; j <= holes; j++) {
          all.append("&~(p").append(i).append(h).append("&p").append(j).append(h).append(")");
        }
      }
    }
    return all.append(")").toString();
  }

  private static void likeThePlainProver(String text) {
    DilemmaProver p = new DilemmaProver();
    PlainProver plain = new PlainProver();
    int l = Check.readText(p, text);
    for (int i = 0; i < text.length(); i++) {
      plain.feed(text.charAt(i), 1);
    }
    CHECK.due("read " + text, l, plain.read());
    for (int depth = 0; depth <= 4; depth++) {
      String title = "prove " + text + " to " + depth;
      CHECK.due(title, p.prove(l, depth, 5000), plain.prove(l, depth, 5000));
      for (int what = 0; what < 4; what++) {
        CHECK.due(title + ": told(" + what + ")", p.told(what), plain.told(what));
      }
    }
  }
}
