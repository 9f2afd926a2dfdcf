import java.util.Random;

/** Promise 12: few jobs that are in each other's way, against a look at every row of hours. */
public final class WholeTest {
  private final Random random;
  private final Check check;
  private final PlugHours x = new PlugHours();
  private final Model m = new Model();
  /** With units of 1 sums differ by as little as they can. */
  private final int unit;

  private WholeTest(long seed, Check check) {
    random = new Random(seed);
    this.check = check;
    unit = random.nextInt(3) == 0 ? 1 : 10;
  }

  private int from(int low, int high) { return low + random.nextInt(high - low + 1); }

  private void addJob(int homes, int first, int width) {
    int h = random.nextInt(homes), f = first + random.nextInt(3), l = Math.min(167, f + random.nextInt(width)), n = from(1, 4);
    int a = from(0, 3) * unit, b = from(0, 3) * unit, c = from(0, 3) * unit, d = from(0, 3) * unit;
    check.due("job", x.job(h, f, l, n, a, b, c, d), m.job(h, f, l, n, a, b, c, d));
  }

  private void tell(String text) {
    for (int i = 0; i < text.length(); i += 20) {
      m.feed(Check.four(text, i), Check.four(text, i + 4), Check.four(text, i + 8), Check.four(text, i + 12),
          Check.four(text, i + 16));
    }
    check.due("rules", Check.rules(x, text), m.rules());
  }

  private boolean compare() {
    long want = m.whole();
    check.due("whole", x.whole(), want);
    boolean alike = x.status() == m.status();
    for (int j = 0; j < m.jobs.size(); j++) {
      check.due("of(" + j + ", 5)", x.of(j, 5), m.of(j, 5));
      check.due("of(" + j + ", 4)", x.of(j, 4), m.of(j, 4));
      alike = alike && x.of(j, 5) == m.of(j, 5);
    }
    for (int t = 0; t < 168; t++) {
      check.due("load(0, " + t + ")", x.load(0, t), m.load(0, t));
    }
    return alike;
  }

  private boolean run() {
    int homes = from(1, 3), first = random.nextInt(8) == 0 ? from(150, 164) : from(0, 20), jobs = from(2, 5);
    int width = jobs > 4 ? 5 : jobs > 3 ? 7 : 12;
    for (int h = 0; h < homes; h++) {
      int fuse = from(2, 7) * unit;
      check.due("home", x.home(fuse), m.home(fuse));
      for (int i = 0; i < 6; i++) {
        int t = random.nextInt(24), w = from(0, 2) * unit;
        check.due("base", x.base(h, t, w), m.base(h, t, w));
      }
    }
    int cable = from(4, 12) * unit;
    check.due("cable", x.cable(cable), m.cable(cable));
    int kinds = from(1, 9);
    for (int i = 0; i < 30; i++) {
      int t = Math.min(167, first + random.nextInt(20)), p = from(-1, kinds) * unit;
      check.due("price", x.price(t, p, 0), m.price(t, p, 0));
    }
    StringBuilder text = new StringBuilder();
    for (int i = random.nextInt(4); i > 0; i--) {
      int a = random.nextInt(jobs);
      text.append(text.length() == 0 ? "" : ";").append("job ").append(a).append(" before ").append((a + 1) % jobs);
    }
    tell(text.toString());
    for (int j = 0; j < jobs; j++) addJob(homes, first, width);
    boolean alike = compare();
    int steps = Math.min(10, 167 - m.now);
    int hours = m.now == 0 ? Math.min(48, first + 2) : steps;
    if (hours > 0) check.due("go", x.go(hours), m.go(hours));
    for (int j = 0; j < 3 && m.count(7) + m.count(8) < 4; j++) addJob(homes, first + 2, width);
    return compare() && alike;
  }

  /** Wide windows and hours that all jobs want: the search must not look at every row (24 to the 5th). */
  private static void wide(Check check) {
    for (int kind = 0; kind < 4; kind++) {
      PlugHours x = new PlugHours();
      x.home(1000);
      for (int t = 0; t < 30; t++) {
        x.price(t, kind == 0 ? 10000 - t * 7 : kind == 1 ? (t == 12 ? 0 : 50) : kind == 2 ? t * 37 % 101 : 100, 0);
      }
      for (int j = 0; j < 5; j++) {
        x.job(0, 0, 23, kind == 1 ? 1 : 4, 600 + j, 600, 600, 600);
      }
      if (kind == 3) {
        Check.rules(x, "job 0 before 1;job 1 before 2;job 2 before 3;job 3 before 4;job 4 before 0");
      }
      long least = x.whole();
      if (kind == 1) check.due("one cheap hour, which the dearest takes", least, 50L * (600 + 601 + 602 + 603));
      if (kind == 3) check.due("jobs in a ring", least, PlugHours.BEYOND - 6);
      if (kind == 0) {
        check.due("the last hours, packed close", x.of(0, 5) + x.of(1, 5) + x.of(2, 5) + x.of(3, 5) + x.of(4, 5),
            23 + 19 + 15 + 11 + 7);
      }
      for (int t = 0; t < 30; t++) check.isTrue("the fuse bears hour " + t, x.load(0, t) <= 1000);
    }
  }

  public static void main(String[] args) {
    Check check = new Check();
    boolean alike = true;
    for (int seed = 1; seed <= 3000 && alike; seed++) {
      alike = new WholeTest(seed, check).run();
      if (!alike) System.out.println("seed " + seed);
    }
    wide(check);
    check.end("WholeTest");
  }
}
