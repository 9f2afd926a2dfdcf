/** Boundary cases of term I (hours, prices, homes, cable, jobs) and of promises 1 to 9. */
public final class EdgesHoursTest {
  private static final Check CHECK = new Check();
  private static final Edges EDGES = new Edges(CHECK);
  private static final int LOW = Integer.MIN_VALUE;
  private static final int HIGH = Integer.MAX_VALUE;

  private static void due(String what, long got, long want) { CHECK.due(what, got, want); }

  private static PlugHours oneHome() { return Edges.home(20000); }

  private static PlugHours oneJob(int first, int last, int n) {
    PlugHours x = oneHome();
    due("a job", x.job(0, first, last, n, 5000, 4000, 3000, 2000), 0);
    return x;
  }

  /** Term I: "HOURS 0 .. 167", wherever a call takes one. */
  private static void hours() {
    EDGES.range("I, 2: price's hour", PlugHours::new, (x, h) -> x.price(h, 0, 0), 0, 167, -1);
    EDGES.range("I, 4: at's hour", PlugHours::new, (x, h) -> x.at(h, 0), 0, 167, -5000);
    EDGES.range("I, 8: a window of one hour", EdgesHoursTest::oneHome, (x, h) -> x.job(0, h, h, 1, 0, 0, 0, 0), 0, 167, -1);
    EDGES.range("I, 19: load's hour", EdgesHoursTest::oneHome, (x, h) -> x.load(0, h), 0, 167, -1);
    EDGES.range("I, 10: may's hour", () -> oneJob(0, 0, 1), (x, h) -> x.may(0, h), 0, 167, -1);
    PlugHours x = oneHome();
    due("I, 8: the last hour alone is beyond 167", x.job(0, 160, 168, 1, 0, 0, 0, 0), -1);
    due("I, 8: the first hour alone is below 0", x.job(0, -1, 5, 1, 0, 0, 0, 0), -1);
    due("I, 8: none was made", x.count(2), 0);
  }

  /** Term I: "hour of the day: the rest by 24". */
  private static void hourOfTheDay() {
    PlugHours x = oneHome();
    x.base(0, 0, 10);
    x.base(0, 23, 20);
    int[] first = {0, 24, 48, 120, 144};
    for (int hour : first) due("I, 19: hour " + hour + " is hour 0 of its day", x.load(0, hour), 10);
    int[] last = {23, 47, 71, 143, 167};
    for (int hour : last) due("I, 19: hour " + hour + " is hour 23 of its day", x.load(0, hour), 20);
    int[] others = {1, 22, 25, 46, 142, 145, 166};
    for (int hour : others) due("I, 19: hour " + hour + " is neither", x.load(0, hour), 0);
    EDGES.range("I, 6: base's hour of the day", EdgesHoursTest::oneHome, (y, h) -> y.base(0, h, 5), 0, 23, -1);
    x.base(0, 24, 99);
    due("I, 6: 24 is not taken for 0", x.load(0, 0), 10);
  }

  /** Term I: "NOW is 0 at first". */
  private static void nowAtFirst() {
    PlugHours x = oneJob(0, 3, 1);
    due("I, 26: NOW", x.count(0), 0);
    due("I, 10: hour 0 is not ahead of NOW", x.may(0, 0), 1);
    due("I, 18: one hour on", x.go(1), 1);
    due("I, 10: now it is", x.may(0, 0), 0);
  }

  /** Term I: "PRICES, 400 at most"; promise 2: "-5". */
  private static void mostPrices() {
    PlugHours x = new PlugHours();
    for (int i = 1; i < 400; i++) x.price(i % 168, 1, 0);
    due("I, 2: the 400th", x.price(9, 2, 0), 400);
    due("I, 2: its status", x.status(), 0);
    due("I, 2: the 401st", x.price(9, 3, 0), -5);
    due("I, 2: its status", x.status(), -5);
    due("I, 2: there are 400", x.count(3), 400);
    due("I, 2: the 400th counts, not the 401st", x.at(9, 0), 2);
    due("I, 2: for an hour without a price, too", x.price(167, 3, 1000), -5);
    due("I, 2: nor is that one kept", x.at(167, 1000), 1);
  }

  /** Term I: PRICES "(-1000 .. 10,000), told with the HOUR in which it became known (0 .. 1000)". */
  private static void priceRanges() {
    EDGES.range("I, 2: a price", PlugHours::new, (x, p) -> x.price(0, p, 0), -1000, 10000, -1);
    EDGES.range("I, 2: known", PlugHours::new, (x, k) -> x.price(0, 0, k), 0, 1000, -1);
    EDGES.range("I, 4: known", PlugHours::new, (x, k) -> x.at(0, k), 0, 1000, -5000);
    PlugHours x = new PlugHours();
    x.price(0, -1000, 0);
    x.price(1, 10000, 1000);
    due("I, 4: the lowest", x.at(0, 0), -1000);
    due("I, 4: the highest", x.at(1, 1000), 10000);
    due("I, 4: not known in 999", x.at(1, 999), 100);
  }

  /** Term I: "of those known by then the one told last counts; without one PLAIN". */
  private static void asKnown() {
    PlugHours x = new PlugHours();
    x.price(5, 7, 10);
    due("I, 4: the hour ahead: PLAIN", x.at(5, 9), 100);
    due("I, 4: known in that hour", x.at(5, 10), 7);
    due("I, 4: and behind it", x.at(5, 11), 7);
    x.price(5, 8, 3);
    due("I, 4: told last though known first", x.at(5, 10), 8);
    due("I, 4: known in 3", x.at(5, 3), 8);
    due("I, 4: none is known in 2", x.at(5, 2), 100);
    x.price(5, 9, 10);
    due("I, 4: told anew for the same hour", x.at(5, 10), 9);
    due("I, 4: what was known in 9 stays", x.at(5, 9), 8);
    due("I, 4: hours beside it have none", x.at(4, 1000) + x.at(6, 1000), 200);
    x.plain(55);
    due("I, 3: PLAIN counts where there is none", x.at(5, 2), 55);
    due("I, 3: and not where there is one", x.at(5, 3), 8);
  }

  /** Term I: PLAIN "(-1000 .. 10,000; 100 at first)"; promise 3: "-5000 for one that can't be". */
  private static void plain() {
    EDGES.range("I, 3: plain", PlugHours::new, (x, p) -> x.plain(p), -1000, 10000, -5000);
    PlugHours x = new PlugHours();
    due("I, 3: 100 at first", x.plain(-1000), 100);
    due("I, 3: the lowest", x.plain(10000), -1000);
    due("I, 3: the highest", x.at(167, 0), 10000);
    due("3: too high", x.plain(10001), -5000);
    due("27: plain that can't be", x.status(), -1);
    due("3: it stays", x.plain(0), 10000);
    due("3: 0 is one that can be", x.plain(1), 0);
    due("27: plain that can be", x.status(), 0);
  }

  /** Term I: "HOMES 0 .. 3 (4 at most): FUSE (0 .. 20,000 watts)"; promise 5: "-1; -5". */
  private static void homes() {
    EDGES.range("I, 5: a fuse", PlugHours::new, (x, f) -> x.home(f), 0, 20000, -1);
    PlugHours x = new PlugHours();
    for (int i = 0; i < 4; i++) due("I, 5: home " + i, x.home(i), i);
    due("I, 5: the fifth", x.home(5), -5);
    due("I, 5: its status", x.status(), -5);
    due("I, 5: four", x.count(1), 4);
    due("I, 19: home 3", x.load(3, 0), 0);
    due("I, 19: home 4", x.load(4, 0), -1);
    PlugHours y = new PlugHours();
    y.home(0);
    y.job(0, 0, 0, 1, 0, 0, 0, 0);
    y.job(0, 0, 0, 1, 1, 0, 0, 0);
    due("I, 10: a fuse of 0 bears 0 watts", y.may(0, 0), 1);
    due("I, 10: and no more", y.may(1, 0), 0);
  }

  /** Term I: "BASE of each hour of the day (0 .. 5000; 0 at first)"; promise 6: "-1; -2". */
  private static void base() {
    EDGES.range("I, 6: watts", EdgesHoursTest::oneHome, (x, w) -> x.base(0, 0, w), 0, 5000, -1);
    PlugHours x = oneHome();
    x.home(0);
    for (int hour = 0; hour < 24; hour++) due("I, 6: 0 at first in " + hour, x.load(1, hour), 0);
    due("I, 6: the most", x.base(1, 5, 5000), 0);
    due("I, 19: of that home, above its fuse as it may be", x.load(1, 5), 5000);
    due("I, 19: not of another", x.load(0, 5), 0);
    due("I, 6: too much", x.base(1, 5, 5001), -1);
    due("I, 6: it stays", x.load(1, 5), 5000);
    due("I, 6: back to 0", x.base(1, 5, 0), 0);
    due("I, 19: 0 again", x.load(1, 5), 0);
    int[] none = {2, 3, 4, -1, LOW, HIGH};
    for (int home : none) due("6: there is no home " + home, x.base(home, 0, 0), -2);
  }

  /** Term I: "CABLE (0 .. 80,000; 80,000 at first)"; promise 7: "what it was; -1". */
  private static void cable() {
    EDGES.range("I, 7: cable", PlugHours::new, (x, w) -> x.cable(w), 0, 80000, -1);
    PlugHours x = new PlugHours();
    due("I, 7: 80,000 at first", x.cable(0), 80000);
    due("7: too much", x.cable(80001), -1);
    due("7: below 0", x.cable(-1), -1);
    due("7: it stays", x.cable(80000), 0);
    due("7: the most", x.cable(80000), 80000);
    due("7: its status", x.status(), 0);
  }

  /** Term I: "JOBS 0 .. 15 (16 at most)"; promise 8: "-5". */
  private static void mostJobs() {
    PlugHours x = oneHome();
    for (int i = 0; i < 16; i++) due("I, 8: job " + i, x.job(0, i, i, 1, i, 0, 0, 0), i);
    due("I, 8: the 17th", x.job(0, 0, 0, 1, 0, 0, 0, 0), -5);
    due("I, 8: its status", x.status(), -5);
    due("I, 8: sixteen", x.count(2), 16);
    due("I, 9: job 15", x.of(15, 10), 15);
    int[] none = {16, -1, LOW, HIGH};
    for (int job : none) due("9: there is no job " + job, x.of(job, 0), -1);
  }

  /** Term I: a JOB has "1 to 4 HOURS, what it needs in each (0 .. 5000)". */
  private static void jobRanges() {
    EDGES.range("I, 8: n", EdgesHoursTest::oneHome, (x, n) -> x.job(0, 0, 0, n, 0, 0, 0, 0), 1, 4, -1);
    EDGES.range("I, 8: a", EdgesHoursTest::oneHome, (x, w) -> x.job(0, 0, 0, 1, w, 0, 0, 0), 0, 5000, -1);
    EDGES.range("I, 8: b", EdgesHoursTest::oneHome, (x, w) -> x.job(0, 0, 0, 2, 0, w, 0, 0), 0, 5000, -1);
    EDGES.range("I, 8: c", EdgesHoursTest::oneHome, (x, w) -> x.job(0, 0, 0, 3, 0, 0, w, 0), 0, 5000, -1);
    EDGES.range("I, 8: d", EdgesHoursTest::oneHome, (x, w) -> x.job(0, 0, 0, 4, 0, 0, 0, w), 0, 5000, -1);
    EDGES.range("I, 8: a of four", EdgesHoursTest::oneHome, (x, w) -> x.job(0, 0, 0, 4, w, 0, 0, 0), 0, 5000, -1);
    EDGES.range("I, 8: b of four", EdgesHoursTest::oneHome, (x, w) -> x.job(0, 0, 0, 4, 0, w, 0, 0), 0, 5000, -1);
    EDGES.range("I, 8: c of four", EdgesHoursTest::oneHome, (x, w) -> x.job(0, 0, 0, 4, 0, 0, w, 0), 0, 5000, -1);
  }

  /** Promise 8: "what is beyond n isn't looked at"; promise 9: it isn't there. */
  private static void beyondN() {
    PlugHours x = oneHome();
    due("8: beyond one", x.job(0, 0, 0, 1, 1, LOW, HIGH, -1), 0);
    due("8: beyond two", x.job(0, 0, 0, 2, 1, 2, 5001, LOW), 1);
    due("8: beyond three", x.job(0, 0, 0, 3, 1, 2, 3, HIGH), 2);
    due("8: the last of three is looked at", x.job(0, 0, 0, 3, 1, 2, 5001, 0), -1);
    for (int job = 0; job < 3; job++) {
      for (int k = 0; k < 4; k++) due("9: of(" + job + ", " + (10 + k) + ")", x.of(job, 10 + k), k <= job ? k + 1 : -1);
    }
    x.put(0, 0);
    due("8: nor is it drawn", x.load(0, 1), 0);
  }

  /** Term I: the last HOUR is "at most 23 behind the first"; promise 8: "the last ahead of the first, or too far behind it". */
  private static void windows() {
    PlugHours x = oneHome();
    due("8: of one hour", x.job(0, 7, 7, 1, 0, 0, 0, 0), 0);
    due("8: the last ahead of the first", x.job(0, 7, 6, 1, 0, 0, 0, 0), -1);
    due("8: 23 behind", x.job(0, 7, 30, 1, 0, 0, 0, 0), 1);
    due("8: 24 behind", x.job(0, 7, 31, 1, 0, 0, 0, 0), -1);
    due("8: 23 behind, to the last hour", x.job(0, 144, 167, 1, 0, 0, 0, 0), 2);
    due("8: 24 behind, to the last hour", x.job(0, 143, 167, 1, 0, 0, 0, 0), -1);
    due("8: all hours", x.job(0, 0, 167, 1, 0, 0, 0, 0), -1);
    due("8: farther than numbers go", x.job(0, LOW, HIGH, 1, 0, 0, 0, 0), -1);
    due("8: ahead farther than numbers go", x.job(0, HIGH, LOW, 1, 0, 0, 0, 0), -1);
    due("8: a window may lie behind NOW", x.go(40), 40);
    due("8: it may", x.job(0, 0, 3, 1, 0, 0, 0, 0), 3);
    due("8: its hours may go beyond 167", x.job(0, 167, 167, 4, 0, 0, 0, 0), 4);
    due("8: the jobs that were made", x.count(2), 5);
  }

  /** Promise 8: "-2". */
  private static void noSuchHome() {
    PlugHours x = oneHome();
    int[] none = {1, 3, 4, -1, LOW, HIGH};
    for (int home : none) {
      due("8: there is no home " + home, x.job(home, 0, 0, 1, 0, 0, 0, 0), -2);
      due("8: its status", x.status(), -2);
      due("19: there is no home " + home, x.load(home, 0), -1);
    }
    x.home(0);
    due("8: now there is", x.job(1, 0, 0, 1, 0, 0, 0, 0), 0);
  }

  /** Promise 9: whats that there are not; "NONE of OPEN ones"; "NONE without". */
  private static void of() {
    PlugHours x = oneJob(2, 4, 4);
    int[] want = {0, 2, 4, 4, 0, -1, -1, -1, -1, -1, 5000, 4000, 3000, 2000, -1};
    for (int what = 0; what < want.length; what++) due("9: of(0, " + what + ")", x.of(0, what), want[what]);
    int[] none = {-1, 14, 15, LOW, HIGH, HIGH - 9};
    for (int what : none) due("9: there is no " + what, x.of(0, what), -1);
    x.put(0, 3);
    due("9: PLANNED", x.of(0, 4), 1);
    due("9: its hour", x.of(0, 5), 3);
    x.go(3);
    due("9: PLANNED for NOW is not DONE", x.of(0, 4), 1);
    x.go(1);
    due("9: DONE", x.of(0, 4), 2);
    due("9: the hour in which it began", x.of(0, 5), 3);
  }

  /** Promise 1: "No HOMES, JOBS, PRICES": every number is one too many. */
  private static void newObject() {
    PlugHours x = new PlugHours();
    for (int what = 0; what <= 9; what++) due("1: count(" + what + ")", x.count(what), 0);
    due("1: base", x.base(0, 0, 0), -2);
    due("1: job", x.job(0, 0, 0, 1, 0, 0, 0, 0), -2);
    due("1: store", x.store(0, 1, 0, 0, 0, 0, 1), -2);
    due("1: put", x.put(0, 0), -2);
    due("1: level", x.level(0, 0), -2);
    due("1: fill", x.fill(0, 1, 0), PlugHours.BEYOND - 2);
    due("1: of", x.of(0, 0), -1);
    due("1: may", x.may(0, 0), -1);
    due("1: load", x.load(0, 0), -1);
    due("1: cost", x.cost(0, 0), 0);
    due("1: saved", x.saved(0), 0);
    due("1: filled", x.filled(0, 0), -1000);
    due("1: fault", x.fault(), -1);
    due("1: at", x.at(0, 0), 100);
    due("1: whole of none", x.whole(), 0);
    due("1: each of none", x.each(), 0);
    due("1: rules of no text", x.rules(), 0);
  }

  public static void main(String[] args) {
    hours();
    hourOfTheDay();
    nowAtFirst();
    mostPrices();
    priceRanges();
    asKnown();
    plain();
    homes();
    base();
    cable();
    mostJobs();
    jobRanges();
    beyondN();
    windows();
    noSuchHome();
    of();
    newObject();
    CHECK.end("EdgesHoursTest");
  }
}
