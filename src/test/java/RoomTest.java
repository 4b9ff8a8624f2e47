import com.sun.management.ThreadMXBean;
import java.lang.management.ManagementFactory;

/**
 * "An object is used for at most 512 calls after it has been made": runs that have so many, of the
 * dearest calls, end, answer the last time what they did the first time, and make next to no objects.
 */
public final class RoomTest {
  private static final Check CHECK = new Check("RoomTest");
  private static final int CALLS = 512;

  /** What is left of them behind 3000 bytes that were fed, and behind a room full of gates. */
  private static final int BEHIND_FEEDS = CALLS - 375 - 3;
  private static final int BEHIND_GATES = CALLS - 110;

  private static final long MOST_BYTES = 100_000;
  private static final ThreadMXBean THREADS = (ThreadMXBean) ManagementFactory.getThreadMXBean();

  private interface Call {
    int of(DilemmaProver prover);
  }

  public static void main(String[] args) {
    CHECK.sentence("An object is used for at most 512 calls after it has been made");
    newObjects();
    longestTexts();
    dearestFeeds();
    dearestProofs();
    dearestAssignments();
    cheapCalls();
    deepestReading();
    CHECK.end();
  }

  private static long madeTillNow() {
    return THREADS.getThreadAllocatedBytes(Thread.currentThread().getId());
  }

  private static void often(String title, int times, DilemmaProver p, Call call) {
    int first = call.of(p);
    long before = madeTillNow();
    int wrong = 0;
    for (int i = 1; i < times; i++) {
      wrong += call.of(p) == first ? 0 : 1;
    }
    long made = madeTillNow() - before;
    CHECK.due(title + ": answers unlike the first (" + first + ")", wrong, 0);
    CHECK.holds(title + ": at most " + MOST_BYTES + " bytes are made (" + made + ")", made <= MOST_BYTES);
  }

  /** Some 600,000 objects and 7.3 million elements are the room of a run: objects must be small. */
  private static void newObjects() {
    new DilemmaProver();
    long before = madeTillNow();
    DilemmaProver[] all = new DilemmaProver[CALLS];
    for (int i = 0; i < CALLS; i++) {
      all[i] = new DilemmaProver();
    }
    long made = madeTillNow() - before;
    CHECK.due("the last is a new one", all[CALLS - 1].count(0), 1);
    CHECK.holds("512 objects are made of at most 20 million bytes (" + made + ")", made <= 20_000_000);
  }

  private static void longestTexts() {
    String[] texts = {
      Check.repeat("~(~a0&c0)^", 299) + "a0<->b0   ",
      Check.repeat(" ", 3000),
      Check.repeat("a", 3000),
      Check.repeat("(", 3000),
      Check.repeat("a0|", 999) + "a0 ",
      Check.repeat("true<->true|true^true&(", 40) + "abcdef" + Check.repeat(")", 40)
    };
    for (String text : texts) {
      DilemmaProver p = Check.given(text);
      p.read();
      often("read() of " + text.length() + " bytes", BEHIND_FEEDS, p, DilemmaProver::read);
    }
  }

  private static void dearestFeeds() {
    DilemmaProver p = new DilemmaProver();
    for (int i = 1; i <= CALLS; i++) {
      CHECK.due("feed " + i, p.feed(-1L, 8), i <= 375 ? 8 * i : -4);
    }
    often("feed() of none", CALLS, new DilemmaProver(), prover -> prover.feed(-1L, 0));
  }

  /** 14 inputs and 120 variables, in chains that take many rounds. */
  private static DilemmaProver full() {
    DilemmaProver p = Check.having(Check.names(14, "&"));
    for (int v = p.count(0); v < 120; v++) {
      p.gate(2, 2, 2 * v - 2);
    }
    return p;
  }

  private static void dearestProofs() {
    CHECK.due("the room is full", full().count(0), 120);
    often("prove() to depth 1", BEHIND_GATES, full(), prover -> prover.prove(238, 1, 5000));
    // Both take all steps that may be, so a run of them is the dearest that there is.
    DilemmaProver p = full();
    int[] turn = {0};
    often("prove(), saturate()", BEHIND_GATES - 2, p, prover -> allSteps(prover, turn[0]++ % 2 == 0));
    CHECK.due("all steps began", p.told(0), 5000);
    CHECK.due("it stays as it was", p.count(3), 240);
    often("join(), forget()", BEHIND_GATES / 3, full(), RoomTest::joinAndForget);
  }

  private static int allSteps(DilemmaProver p, boolean isProof) {
    return isProof ? p.prove(238, 4, 5000) : p.saturate(4, 5000);
  }

  private static int joinAndForget(DilemmaProver p) {
    p.join(238, 3);
    p.join(2, 237);
    return p.forget();
  }

  private static void dearestAssignments() {
    often("model()", BEHIND_GATES, full(), prover -> prover.model(0));
    often("model() of the greatest", BEHIND_GATES, full(), prover -> prover.model(239));
    often("alike()", BEHIND_GATES, full(), prover -> prover.alike(238, 236));
    often("value()", BEHIND_GATES, full(), prover -> prover.value(238, (1 << 14) - 1));
  }

  private static void cheapCalls() {
    often("count()", BEHIND_GATES, full(), prover -> prover.count(3));
    often("variable()", BEHIND_GATES, full(), prover -> prover.variable(119, 2));
    often("sign()", BEHIND_GATES, full(), prover -> prover.sign(1, 0));
    often("stands()", BEHIND_GATES, full(), prover -> prover.stands(239));
    often("told()", BEHIND_GATES, full(), prover -> prover.told(0));
    often("place()", CALLS, new DilemmaProver(), DilemmaProver::place);
    often("clear()", CALLS, new DilemmaProver(), DilemmaProver::clear);
    DilemmaProver p = new DilemmaProver();
    for (int i = 1; i <= CALLS; i++) {
      CHECK.due("gate " + i, p.gate(3, 0, 2 * Math.min(i, 120) - 2), i < 120 ? 2 * i : -4);
    }
  }

  /** As many calls open as can be: brackets, each behind signs of every strength. */
  private static void deepestReading() {
    DilemmaProver p = Check.given(Check.repeat("true<->true|true^true&(", 40) + "abcdef" + Check.repeat(")", 40));
    CHECK.due("40 brackets behind all signs", p.read(), -15);
    CHECK.due("it is the variables that end it", p.count(0), 120);
  }
}
