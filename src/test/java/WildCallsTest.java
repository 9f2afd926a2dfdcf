import java.lang.management.ManagementFactory;
import java.util.Random;

/** No call throws, for any arguments in any state; none makes objects; and none takes long. */
public final class WildCallsTest {
  private static final int[] ODD = {Integer.MIN_VALUE, Integer.MIN_VALUE + 1, -5000, -1001, -1000, -2, -1, 0, 1, 2, 3, 4, 5, 6,
      9, 10, 13, 14, 15, 16, 20, 23, 24, 39, 40, 41, 47, 48, 49, 100, 143, 144, 160, 164, 165, 166, 167, 168, 280, 281, 300,
      301, 999, 1000, 1001, 5000, 5001, 10000, 10001, 20000, 20001, 80000, 80001, Integer.MAX_VALUE - 1, Integer.MAX_VALUE};
  private static final String TEXT = "quiet 0 from 22 to 2;dear 80 ; job 0 before 1;job 4 before 2;quiet 3 from 1 to 1 ; dear 7";

  private final Random random;
  private final PlugHours x = new PlugHours();

  private WildCallsTest(long seed) { random = new Random(seed); }

  private int odd() { return random.nextInt(3) == 0 ? random.nextInt(24) : ODD[random.nextInt(ODD.length)]; }

  private long call(int which) {
    switch (which) {
      case 0: return x.price(odd(), odd(), odd());
      case 1: return x.plain(odd());
      case 2: return x.at(odd(), odd());
      case 3: return x.home(odd());
      case 4: return x.base(odd(), odd(), odd());
      case 5: return x.cable(odd());
      case 6: return x.job(odd(), odd(), odd(), odd(), odd(), odd(), odd(), odd());
      case 7: return x.job(random.nextInt(4), random.nextInt(30), 29 + random.nextInt(3), 1 + random.nextInt(4), odd(), 1, 2, 3);
      case 8: return x.of(odd(), odd());
      case 9: return x.may(odd(), odd());
      case 10: return x.put(odd(), odd());
      case 11: return x.whole();
      case 12: return x.each();
      case 13: return x.feed(odd(), odd(), odd(), odd(), odd());
      case 14: {
        int at = 4 * random.nextInt(20);
        return x.feed(Check.four(TEXT, at), Check.four(TEXT, at + 4), Check.four(TEXT, at + 8), Check.four(TEXT, at + 12),
            Check.four(TEXT, at + 16));
      }
      case 15: return x.end(odd());
      case 16: return x.rules();
      case 17: return x.fault();
      case 18: return x.go(random.nextInt(4) == 0 ? odd() : 1);
      case 19: return x.load(odd(), odd());
      case 20: return x.cost(odd(), odd());
      case 21: return x.saved(odd());
      case 22: return x.store(odd(), odd(), odd(), odd(), odd(), odd(), odd());
      case 23: return x.store(random.nextInt(4), 40, odd(), 10, 10, random.nextInt(4), 1 + random.nextInt(100));
      case 24: return x.level(odd(), odd());
      case 25: return x.fill(odd(), odd(), odd());
      case 26: return x.fill(random.nextInt(6), 1 + random.nextInt(48), random.nextInt(5));
      case 27: return x.filled(odd(), odd());
      case 28: return x.count(odd());
      default: return x.status();
    }
  }

  /** Beyond its 512 calls the answers are free, but nothing may break there either. */
  private long run() {
    long sum = 0;
    for (int i = 0; i < 1500; i++) sum += call(random.nextInt(i < 40 ? 8 : 30));
    return sum;
  }

  private static boolean makesNothing() {
    com.sun.management.ThreadMXBean threads = (com.sun.management.ThreadMXBean) ManagementFactory.getThreadMXBean();
    WildCallsTest test = new WildCallsTest(7);
    for (int i = 0; i < 4; i++) test.x.home(3000);
    long made = Long.MAX_VALUE;
    for (int round = 0; round < 5; round++) {
      long before = threads.getCurrentThreadAllocatedBytes();
      long empty = threads.getCurrentThreadAllocatedBytes();
      for (int i = 0; i < 2000; i++) test.call(i % 30 == 18 ? 0 : i % 30);
      long after = threads.getCurrentThreadAllocatedBytes();
      made = Math.min(made, after - empty - (empty - before));
    }
    return made <= 0;
  }

  public static void main(String[] args) {
    Check check = new Check();
    long start = System.nanoTime();
    long sum = 0;
    for (int seed = 1; seed <= 400; seed++) sum += new WildCallsTest(seed).run();
    check.isTrue("600,000 calls are answered within a minute", System.nanoTime() - start < 60_000_000_000L);
    long again = 0;
    for (int seed = 1; seed <= 400; seed++) again += new WildCallsTest(seed).run();
    check.due("the same calls, the same answers", again, sum);
    check.isTrue("calls make no objects", makesNothing());
    check.end("WildCallsTest");
  }
}
