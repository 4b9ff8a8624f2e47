import com.sun.management.ThreadMXBean;
import java.lang.management.ManagementFactory;

/** The dearest calls, as many as an object may have: they end, and make next to no objects. */
public final class RoomTest {
  private static final Check CHECK = new Check("RoomTest");
  private static final long MOST_BYTES = 100_000;

  public static void main(String[] args) {
    ThreadMXBean threads = (ThreadMXBean) ManagementFactory.getThreadMXBean();
    long me = Thread.currentThread().getId();
    DilemmaProver p = full();
    dearCalls(p);
    long before = threads.getThreadAllocatedBytes(me);
    for (int i = 0; i < 60; i++) {
      dearCalls(p);
    }
    long made = threads.getThreadAllocatedBytes(me) - before;
    CHECK.holds("at most " + MOST_BYTES + " bytes are made by the calls (" + made + ")", made <= MOST_BYTES);
    deepestReading();
    CHECK.end();
  }

  /** 14 inputs, 120 variables, and a text as long as may be. */
  private static DilemmaProver full() {
    DilemmaProver p = new DilemmaProver();
    Check.readText(p, Check.names(14, "^"));
    while (p.count(0) < 120) {
      int last = 2 * p.count(0) - 1;
      p.gate(2 + p.count(0) % 2, last, last - 30 + p.count(0) % 7);
    }
    Check.give(p, Check.repeat("~(~a0&c0)^", 200) + Check.repeat("~(~b0|d0)&", 99) + "a0&b0    ");
    CHECK.due("the text is full", p.feed('a', 8), -4);
    return p;
  }

  private static void dearCalls(DilemmaProver p) {
    p.read();
    p.prove(238, 4, 5000);
    p.saturate(4, 5000);
    p.saturate(1, 5000);
    p.model(0);
    p.alike(238, 238);
    p.value(238, 16383);
    p.forget();
  }

  /** As many calls open as can be: brackets, each behind signs of every strength. */
  private static void deepestReading() {
    DilemmaProver p = new DilemmaProver();
    String text = Check.repeat("true<->true|true^true&(", 40) + "abcdef" + Check.repeat(")", 40);
    Check.give(p, text);
    CHECK.due("40 brackets behind all signs", p.read(), -15);
    CHECK.due("it is the variables that end it", p.count(0), 120);
  }
}
