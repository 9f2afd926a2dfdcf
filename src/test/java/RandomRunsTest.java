import java.util.Random;

/** Runs of calls drawn by a fixed seed: every answer of the class is the answer of the slow model. */
public final class RandomRunsTest {
  private static final int RUNS = 4000;
  private static final int CALLS = 200;
  private static final long MOST_ROWS = 4000;
  private static final int[] EDGES = {-1, 0, 1, 4, 5, 10, 16, 23, 24, 40, 41, 48, 49, 143, 144, 166, 167, 168, 1000, 1001,
      5000, 5001, 10000, 10001, 20000, 20001, 80000, 80001, Integer.MAX_VALUE, Integer.MIN_VALUE};
  private static final String[] BITS = {"quiet", "from", "to", "dear", "job", "before", ";", "0", "1", "3", "4", "15", "16",
      "23", "24", "10000", "10001", "99999999999999999999", "007", "x", "-", ",", "Dear", "\u00e9", "\n"};

  private final Random random;
  private final Check check;
  private final PlugHours x = new PlugHours();
  private final Model m = new Model();
  private final StringBuilder log = new StringBuilder();
  private final int width;
  private final boolean wild;

  private RandomRunsTest(long seed, Check check) {
    random = new Random(seed);
    this.check = check;
    width = random.nextInt(4) == 0 ? 24 : 1 + random.nextInt(6);
    wild = random.nextInt(5) == 0;
  }

  private int upTo(int n) { return random.nextInt(n + 1); }

  /** Mostly a number from low to high; in a wild run now and then one that can't be. */
  private int num(int low, int high) {
    int r = random.nextInt(100);
    if (wild && r < 6) return EDGES[random.nextInt(EDGES.length)];
    if (r < 8) return random.nextBoolean() ? low : high;
    if (r == 9) return random.nextBoolean() ? low - 1 : high + 1;
    return low + random.nextInt(Math.max(1, high - low + 1));
  }

  private int hour() { return num(Math.max(0, m.now - 3), Math.min(167, m.now + 30)); }

  /** Mostly an hour of the job's window. */
  private int hourOf(int job) {
    if (job < 0 || job >= m.jobs.size() || random.nextInt(5) == 0) return hour();
    return num(m.jobs.get(job).first, m.jobs.get(job).last);
  }

  private int watts() {
    int r = random.nextInt(10);
    return r == 0 ? 0 : r == 1 ? num(0, 5000) : num(1, 4) * 250;
  }

  private int price() { return random.nextInt(4) == 0 ? num(-1000, 10000) : num(-2, 8) * 10; }

  private String rule() {
    switch (random.nextInt(4)) {
      case 0: return "quiet " + num(0, 3) + " from " + num(0, 23) + " to " + num(0, 23);
      case 1: return "dear " + (random.nextBoolean() ? num(0, 10000) : num(5, 12) * 10);
      default: return "job " + upTo(5) + " before " + upTo(5);
    }
  }

  private String text() {
    StringBuilder s = new StringBuilder();
    int n = random.nextInt(12) == 0 ? 18 + random.nextInt(5) : 1 + random.nextInt(4);
    for (int i = 0; i < n; i++) s.append(i == 0 ? "" : random.nextBoolean() ? ";" : " ; ").append(n > 9 ? "dear 80" : rule());
    String t = s.toString();
    if (random.nextInt(4) == 0) t = t.replace(" ", random.nextBoolean() ? "" : "  ");
    if (random.nextInt(3) == 0) {
      String[] words = t.split("(?<= )|(?= )");
      words[random.nextInt(words.length)] = BITS[random.nextInt(BITS.length)];
      t = String.join("", words);
    }
    if (random.nextInt(12) == 0) t = t + (random.nextBoolean() ? ";" : "   ");
    if (random.nextInt(15) == 0) t = " ".repeat(random.nextInt(4));
    return t.length() > 300 ? t.substring(0, 300) : t;
  }

  private boolean same(String call, long got, long want) {
    log.append(call).append(" -> ").append(want).append('\n');
    check.due(call, got, want);
    if (got != want) System.out.println("after these calls:\n" + log);
    return got == want;
  }

  private boolean tellRules() {
    String t = text();
    for (int i = 0; i < t.length(); i += 20) {
      int a = Check.four(t, i), b = Check.four(t, i + 4), c = Check.four(t, i + 8), d = Check.four(t, i + 12),
          e = Check.four(t, i + 16);
      if (!same("feed(" + a + ", " + b + ", " + c + ", " + d + ", " + e + ")", x.feed(a, b, c, d, e), m.feed(a, b, c, d, e))) {
        return false;
      }
    }
    int n = m.tape.length() >= t.length() && random.nextInt(10) > 0 ? t.length() : num(0, 300);
    return same("end(" + n + ")", x.end(n), m.end(n)) && same("rules()", x.rules(), m.rules())
        && same("fault()", x.fault(), m.fault());
  }

  private boolean make() {
    switch (random.nextInt(9)) {
      case 0: {
        int f = random.nextInt(3) == 0 ? num(0, 20000) : num(1, 6) * 500;
        return same("home(" + f + ")", x.home(f), m.home(f));
      }
      case 1: {
        int h = num(0, 3), t = num(0, 23), w = watts();
        return same("base(" + h + ", " + t + ", " + w + ")", x.base(h, t, w), m.base(h, t, w));
      }
      case 2: {
        int w = random.nextInt(3) == 0 ? num(0, 80000) : num(1, 9) * 500;
        return same("cable(" + w + ")", x.cable(w), m.cable(w));
      }
      case 3: case 4: {
        int h = num(0, m.homes.size() - 1 + random.nextInt(2)), f = hour(), l = f + num(0, width - 1), n = num(1, 4);
        int a = watts(), b = watts(), c = watts(), d = watts();
        return same("job(" + h + ", " + f + ", " + l + ", " + n + ", " + a + ", " + b + ", " + c + ", " + d + ")",
            x.job(h, f, l, n, a, b, c, d), m.job(h, f, l, n, a, b, c, d));
      }
      case 5: {
        int h = num(0, 3), most = num(1, 40), l = num(0, Math.max(0, most)), i = num(0, 10), o = num(0, 10), s = num(0, 3),
            w = random.nextBoolean() ? num(1, 1000) : 100;
        return same("store(" + h + ", " + most + ", " + l + ", " + i + ", " + o + ", " + s + ", " + w + ")",
            x.store(h, most, l, i, o, s, w), m.store(h, most, l, i, o, s, w));
      }
      case 6: {
        int p = price();
        return same("plain(" + p + ")", x.plain(p), m.plain(p));
      }
      default: {
        int h = hour(), p = price(), k = random.nextBoolean() ? num(0, m.now) : num(0, 170);
        return same("price(" + h + ", " + p + ", " + k + ")", x.price(h, p, k), m.price(h, p, k));
      }
    }
  }

  private boolean plan() {
    switch (random.nextInt(8)) {
      case 0: case 1:
        return m.rows() > MOST_ROWS && m.count(7) + m.count(8) <= 5 || same("whole()", x.whole(), m.whole());
      case 2:
        return same("each()", x.each(), m.each());
      case 3: {
        int j = num(0, Math.max(0, m.jobs.size() - 1)), h = hourOf(j);
        return same("put(" + j + ", " + h + ")", x.put(j, h), m.put(j, h));
      }
      case 4: {
        int n = random.nextInt(3) == 0 ? num(1, 48) : num(1, 4);
        return same("go(" + n + ")", x.go(n), m.go(n));
      }
      case 5: {
        int s = num(0, Math.max(0, m.stores.size() - 1)), l = num(0, 40);
        return same("level(" + s + ", " + l + ")", x.level(s, l), m.level(s, l));
      }
      default: {
        int s = num(0, Math.max(0, m.stores.size() - 1)), n = num(1, random.nextInt(6) == 0 ? 48 : 5),
            w = num(0, random.nextBoolean() ? 5 : 40);
        return same("fill(" + s + ", " + n + ", " + w + ")", x.fill(s, n, w), m.fill(s, n, w));
      }
    }
  }

  private boolean ask() {
    switch (random.nextInt(7)) {
      case 0: {
        int h = hour(), k = random.nextBoolean() ? num(0, 200) : num(0, 1000);
        return same("at(" + h + ", " + k + ")", x.at(h, k), m.at(h, k));
      }
      case 1: {
        int j = num(0, 15), w = num(0, 14);
        return same("of(" + j + ", " + w + ")", x.of(j, w), m.of(j, w));
      }
      case 2: {
        int j = num(0, Math.max(0, m.jobs.size() - 1)), h = hourOf(j);
        return same("may(" + j + ", " + h + ")", x.may(j, h), m.may(j, h));
      }
      case 3: {
        int h = num(0, 3), t = hour();
        return same("load(" + h + ", " + t + ")", x.load(h, t), m.load(h, t));
      }
      case 4: {
        int j = num(0, Math.max(0, m.jobs.size() - 1)), k = num(0, 200);
        return same("cost(" + j + ", " + k + ")", x.cost(j, k), m.cost(j, k));
      }
      case 5: {
        int k = num(0, 1000);
        return same("saved(" + k + ")", x.saved(k), m.saved(k));
      }
      default: {
        int i = num(0, 6), w = num(0, 1);
        return same("filled(" + i + ", " + w + ")", x.filled(i, w), m.filled(i, w));
      }
    }
  }

  private boolean looksAlike() {
    boolean alike = true;
    for (int what = 0; what < 10 && alike; what++) alike = same("count(" + what + ")", x.count(what), m.count(what));
    for (int j = 0; j < m.jobs.size() && alike; j++) alike = same("of(" + j + ", 5)", x.of(j, 5), m.of(j, 5));
    for (int i = 0; i < m.filledMoves.length && alike; i++) {
      alike = same("filled(" + i + ", 0)", x.filled(i, 0), m.filled(i, 0))
          && same("filled(" + i + ", 1)", x.filled(i, 1), m.filled(i, 1));
    }
    return alike && same("status()", x.status(), m.status());
  }

  private boolean run() {
    boolean alike = true;
    for (int i = 0; i < CALLS && alike; i++) {
      int r = random.nextInt(20);
      alike = i < 12 || r < 5 ? make() : r < 6 ? tellRules() : r < 14 ? plan() : ask();
      if (i % 4 == 0) alike = alike && looksAlike();
    }
    return alike;
  }

  public static void main(String[] args) {
    Check check = new Check();
    long from = args.length > 0 ? Long.parseLong(args[0]) : 1;
    boolean alike = true;
    for (long seed = from; seed < from + RUNS && alike; seed++) alike = new RandomRunsTest(seed, check).run();
    check.end("RandomRunsTest");
  }
}
