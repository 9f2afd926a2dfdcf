/** Boundary cases of term III (plans, hours that go by, what was saved), and of promises 12, 13 and 18 to 21. */
public final class EdgesPlansTest {
  private static final Check CHECK = new Check();
  private static final Edges EDGES = new Edges(CHECK);
  private static final long TOO_MANY = PlugHours.BEYOND - 5;
  private static final long NO_WAY = PlugHours.BEYOND - 6;

  private static void due(String what, long got, long want) { CHECK.due(what, got, want); }

  /** One hour of so many watts, in hours first to last. */
  private static int job(PlugHours x, int first, int last, int watts) { return x.job(0, first, last, 1, watts, 0, 0, 0); }

  /** The hours for which the jobs are planned, from job 0 on; -1 for OPEN ones. */
  private static void hours(String what, PlugHours x, int... want) {
    for (int job = 0; job < want.length; job++) due(what + ": job " + job, x.of(job, 5), want[job]);
  }

  /** Term III: "at most 5 JOBS that are not DONE"; promise 12: "more than 5 JOBS". */
  private static void atMostFive() {
    PlugHours x = Edges.home(1000);
    due("III, 12: no job", x.whole(), 0);
    for (int j = 0; j < 5; j++) job(x, 0, 9, 10);
    due("III, 12: five", x.whole(), 5000);
    hours("III, 12: five", x, 0, 0, 0, 0, 0);
    job(x, 3, 9, 10);
    due("III, 12: six", x.whole(), TOO_MANY);
    due("III, 12: its status", x.status(), -5);
    hours("III, 12: all stays", x, 0, 0, 0, 0, 0, -1);
    x.put(5, 4);
    due("III, 12: six that are PLANNED", x.whole(), TOO_MANY);
    x.go(1);
    due("III: five are DONE", x.count(9), 5);
    due("III, 12: one is not", x.whole(), 1000);
    hours("III, 12: it becomes OPEN first", x, 0, 0, 0, 0, 0, 3);
    for (int j = 0; j < 4; j++) job(x, 2, 9, 10);
    due("III, 12: ten jobs, of which five are not DONE", x.whole(), 5000);
    hours("III, 12: these five", x, 0, 0, 0, 0, 0, 3, 2, 2, 2, 2);
    job(x, 2, 9, 10);
    due("III, 12: one more is too many", x.whole(), TOO_MANY);
    x.go(3);
    due("III: all but one are DONE", x.count(9), 10);
    due("III, 12: the last of them", x.whole(), 1000);
    hours("III, 12: not ahead of NOW", x, 0, 0, 0, 0, 0, 3, 2, 2, 2, 2, 4);
    x.go(1);
    due("III, 12: all are DONE", x.whole(), 0);
    due("III, 12: its status", x.status(), 0);
  }

  /** Term III: "of those alike the first, as rows of HOURS of the JOBS in order". */
  private static void alike() {
    PlugHours x = Edges.home(1000);
    job(x, 1, 3, 600);
    job(x, 0, 3, 600);
    job(x, 0, 3, 600);
    due("III, 12: three apart", x.whole(), 180000);
    hours("III, 12: the first row", x, 1, 0, 2);
    x.price(0, 101, 0);
    due("III, 12: hour 0 is dearer", x.whole(), 180000);
    hours("III, 12: the first row", x, 1, 2, 3);
    x.price(1, 99, 0);
    due("III, 12: hour 1 is cheaper, whoever takes it", x.whole(), 179400);
    hours("III, 12: the first row", x, 1, 2, 3);
    PlugHours y = Edges.home(1000);
    job(y, 0, 2, 0);
    job(y, 0, 2, 0);
    y.price(0, 10000, 0);
    due("III, 12: 0 watts cost the same everywhere", y.whole(), 0);
    hours("III, 12: the first row", y, 0, 0);
    PlugHours z = Edges.home(1000);
    job(z, 0, 1, 600);
    job(z, 0, 1, 600);
    z.price(1, 90, 0);
    due("III, 12: alike both ways, the cheaper hour is the later one", z.whole(), 114000);
    hours("III, 12: the first job first", z, 0, 1);
    z.price(1, 110, 0);
    due("III, 12: alike both ways, the cheaper hour is the first one", z.whole(), 126000);
    hours("III, 12: the first job first", z, 0, 1);
    z.price(1, 100, 0);
    due("III, 12: all alike", z.whole(), 120000);
    hours("III, 12: the first job first", z, 0, 1);
    job(z, 2, 3, 600);
    z.price(3, 99, 0);
    due("III, 12: the third has a cheaper hour", z.whole(), 179400);
    hours("III, 12: the third has a cheaper hour", z, 0, 1, 3);
  }

  /** Term III: "the least sum of COSTS", also when it is the least by one and an earlier row costs that much more. */
  private static void leastByOne() {
    PlugHours x = Edges.home(1);
    job(x, 0, 2, 1);
    x.price(0, 2, 0);
    x.price(1, 1, 0);
    x.price(2, 2, 0);
    due("III, 12: by one", x.whole(), 1);
    hours("III, 12: by one", x, 1);
    x.price(2, 0, 0);
    due("III, 12: by one more", x.whole(), 0);
    hours("III, 12: by one more", x, 2);
    x.price(1, -1, 0);
    due("III, 12: by one, below 0", x.whole(), -1);
    hours("III, 12: by one, below 0", x, 1);
    due("III, 13: by one, below 0", x.each(), 0);
    hours("III, 13: by one, below 0", x, 1);
    x.price(1, 0, 0);
    job(x, 1, 2, 1);
    job(x, 0, 0, 0);
    due("III, 12: of several", x.whole(), 0);
    hours("III, 12: of several", x, 1, 2, 0);
    x.price(1, 3, 0);
    x.price(0, 4, 0);
    due("III, 12: of several, by one", x.whole(), 3 + 0);
    hours("III, 12: of several, by one", x, 1, 2, 0);
  }

  /** Term III: WHOLE of five JOBS in the widest windows, at their first and at their last HOURS. */
  private static void widest() {
    PlugHours x = Edges.home(1000);
    for (int t = 0; t < 26; t++) x.price(t, 1000 - t, 0);
    for (int j = 0; j < 5; j++) job(x, 0, 23, 1000);
    due("III, 12: cheaper from hour to hour", x.whole(), 1000L * (977 + 978 + 979 + 980 + 981));
    hours("III, 12: the last five, the first row", x, 19, 20, 21, 22, 23);
    for (int t = 0; t < 26; t++) x.price(t, 100 + t, 0);
    due("III, 12: dearer from hour to hour", x.whole(), 1000L * (100 + 101 + 102 + 103 + 104));
    hours("III, 12: the first five, the first row", x, 0, 1, 2, 3, 4);
    Check.rules(x, "job 4 before 3;job 3 before 2;job 2 before 1;job 1 before 0");
    due("III, 12: in the order of rules", x.whole(), 1000L * (100 + 101 + 102 + 103 + 104));
    hours("III, 12: in the order of rules", x, 4, 3, 2, 1, 0);
    Check.rules(x, "");
    due("III, 12: without them", x.whole(), 1000L * (100 + 101 + 102 + 103 + 104));
    hours("III, 12: without them", x, 0, 1, 2, 3, 4);
    x.go(20);
    due("III, 12: DONE", x.whole(), 0);
  }

  /** Terms II and III: "b does not begin ahead of a's end" in WHOLE, just so and by one. */
  private static void wholeBefore() {
    PlugHours x = Edges.home(1000);
    x.job(0, 0, 0, 3, 1, 1, 1, 0);
    x.job(0, 0, 3, 1, 1, 0, 0, 0);
    due("III, 12: without rules", x.whole(), 400);
    hours("III, 12: without rules", x, 0, 0);
    Check.rules(x, "job 0 before 1");
    due("III, 12: begins where the other ends", x.whole(), 400);
    hours("III, 12: begins where the other ends", x, 0, 3);
    Check.rules(x, "job 1 before 0");
    due("III, 12: there is no hour ahead", x.whole(), NO_WAY);
    hours("III, 12: all stays", x, 0, 3);
    x.job(0, 0, 2, 1, 1, 0, 0, 0);
    Check.rules(x, "job 0 before 2");
    due("III, 12: by one", x.whole(), NO_WAY);
    Check.rules(x, "");
    due("III, 12: without rules", x.whole(), 500);
    hours("III, 12: without rules", x, 0, 0, 0);
  }

  /** Terms II and III: FUSE and CABLE in WHOLE, just borne and by one watt not, of one HOME and of two. */
  private static void wholeBorne() {
    PlugHours x = Edges.home(1000);
    x.home(500);
    job(x, 0, 1, 1000);
    x.job(1, 0, 1, 1, 500, 0, 0, 0);
    due("III, 12: each home has its fuse", x.whole(), 150000);
    hours("III, 12: each home has its fuse", x, 0, 0);
    x.cable(1500);
    due("III, 12: the cable just bears both", x.whole(), 150000);
    hours("III, 12: the cable just bears both", x, 0, 0);
    x.cable(1499);
    due("III, 12: by one watt not", x.whole(), 150000);
    hours("III, 12: by one watt not", x, 0, 1);
    x.cable(999);
    due("III, 12: nor one alone", x.whole(), NO_WAY);
    PlugHours y = Edges.home(1000);
    y.job(0, 0, 0, 3, 300, 300, 600, 0);
    y.job(0, 0, 3, 2, 700, 400, 0, 0);
    due("III, 12: hour by hour just borne", y.whole(), 230000);
    hours("III, 12: hour by hour just borne", y, 0, 0);
    y.base(0, 0, 1);
    due("III, 12: not in hour 0", y.whole(), 230000);
    hours("III, 12: not in hour 0, but in 1 and 2", y, 0, 1);
    y.base(0, 2, 1);
    due("III, 12: nor in hour 2", y.whole(), 230000);
    hours("III, 12: nor in hour 2", y, 0, 3);
  }

  /** Term III: each of them MAY BEGIN, "all others being PLANNED as well": any three, and not any two alone. */
  private static void allOthers() {
    PlugHours x = Edges.home(1000);
    for (int j = 0; j < 4; j++) job(x, 0, 1, 333);
    due("III, 12: three are borne in one hour, four are not", x.whole(), 4 * 33300);
    hours("III, 12: the fourth goes elsewhere", x, 0, 0, 0, 1);
    job(x, 0, 0, 334);
    due("III, 12: two of them make room", x.whole(), 4 * 33300 + 33400);
    hours("III, 12: two of them", x, 0, 0, 1, 1, 0);
    PlugHours y = Edges.home(999);
    for (int j = 0; j < 4; j++) job(y, 0, 0, 250);
    due("III, 12: any three are borne, all four are not", y.whole(), NO_WAY);
    PlugHours z = Edges.home(1000);
    for (int j = 0; j < 4; j++) job(z, 0, 0, 250);
    due("III, 12: just borne", z.whole(), 100000);
    z.cable(999);
    due("III, 12: not by the cable", z.whole(), NO_WAY);
  }

  /** Promise 12: "there is none (all stays as it was)". */
  private static void noWay() {
    PlugHours x = Edges.home(1000);
    job(x, 0, 3, 600);
    job(x, 0, 3, 600);
    job(x, 2, 2, 100);
    x.put(0, 3);
    x.put(1, 2);
    x.base(0, 0, 1000);
    x.base(0, 1, 1000);
    x.base(0, 2, 401);
    due("III, 12: one hour for two", x.whole(), NO_WAY);
    due("12: its status", x.status(), -6);
    hours("12: all stays", x, 3, 2, -1);
    due("12: PLANNED stays", x.of(1, 4), 1);
    due("12: OPEN stays", x.of(2, 4), 0);
    due("12: loads stay", x.load(0, 2), 1001);
    due("12: loads stay", x.load(0, 3), 600);
    x.base(0, 2, 300);
    due("12: now there is one", x.whole(), 130000);
    hours("12: the first row", x, 2, 3, 2);
    due("12: its status", x.status(), 0);
  }

  /** Term III: "the least sum of COSTS as known in NOW". */
  private static void asKnownInNow() {
    PlugHours x = Edges.home(1000);
    job(x, 3, 6, 10);
    x.price(5, 99, 2);
    x.price(6, 98, 3);
    due("III, 12: NOW 0", x.whole(), 1000);
    hours("III, 12: NOW 0", x, 3);
    due("III, 13: NOW 0", x.each(), 0);
    hours("III, 13: NOW 0", x, 3);
    x.go(2);
    due("III, 12: NOW 2", x.whole(), 990);
    hours("III, 12: NOW 2", x, 5);
    x.each();
    hours("III, 13: NOW 2", x, 5);
    x.go(1);
    due("III, 12: NOW 3", x.whole(), 980);
    hours("III, 12: NOW 3", x, 6);
    x.each();
    hours("III, 13: NOW 3", x, 6);
    due("III, 20: what it cost as known before", x.cost(0, 2), 1000);
  }

  /** Term III: COST at the ends of its ranges. */
  private static void farCosts() {
    PlugHours x = Edges.home(20000);
    x.home(20000);
    for (int j = 0; j < 5; j++) x.job(j / 4, 0, 0, 4, 5000, 5000, 5000, 5000);
    x.plain(10000);
    due("III, 12: the dearest of all", x.whole(), 5L * 4 * 5000 * 10000);
    due("III, 20: one of them", x.cost(4, 0), 4L * 5000 * 10000);
    x.plain(-1000);
    due("III, 12: the cheapest of all", x.whole(), -5L * 4 * 5000 * 1000);
    x.plain(0);
    due("III, 12: for nothing", x.whole(), 0);
    due("III, 12: which is no refusal", x.status(), 0);
  }

  /** Term III: EACH takes "the HOUR with the least COST in which it MAY BEGIN (of those alike the first)". */
  private static void eachAlike() {
    PlugHours x = Edges.home(1000);
    job(x, 0, 3, 600);
    job(x, 0, 3, 600);
    job(x, 0, 3, 400);
    due("III, 13: all", x.each(), 0);
    hours("III, 13: the first of those alike", x, 0, 1, 0);
    x.price(0, 101, 0);
    due("III, 13: all", x.each(), 0);
    hours("III, 13: hour 0 is dearer", x, 1, 2, 1);
    x.price(3, 99, 0);
    x.each();
    hours("III, 13: hour 3 is cheaper", x, 3, 1, 3);
  }

  /** Term III: EACH: "OPEN, if there is none"; promise 13: "how many are OPEN still". */
  private static void eachOpen() {
    PlugHours x = Edges.home(1000);
    due("13: no job", x.each(), 0);
    for (int j = 0; j < 16; j++) job(x, 0, 6, 501);
    due("III, 13: seven hours for sixteen", x.each(), 9);
    hours("III, 13: in order", x, 0, 1, 2, 3, 4, 5, 6, -1, -1, -1, -1, -1, -1, -1, -1, -1);
    x.base(0, 2, 500);
    due("III, 13: one hour less", x.each(), 10);
    hours("III, 13: the seventh was PLANNED and is OPEN", x, 0, 1, 3, 4, 5, 6, -1, -1);
    x.base(0, 2, 0);
    x.go(2);
    due("III, 13: DONE ones stay", x.each(), 9);
    hours("III, 13: the others anew", x, 0, 1, 2, 3, 4, 5, 6, -1);
    x.base(0, 5, 1000);
    x.base(0, 6, 1000);
    due("III, 13: no room behind", x.each(), 11);
    x.go(48);
    due("III, 13: windows that went by", x.each(), 11);
    due("III, 13: DONE", x.count(9), 5);
  }

  /** Term III: EACH goes "by those that are PLANNED or DONE then": all that are not DONE are OPEN at first. */
  private static void eachThen() {
    PlugHours x = Edges.home(1000);
    job(x, 0, 1, 600);
    job(x, 0, 1, 600);
    x.put(1, 0);
    due("III, 13: both", x.each(), 0);
    hours("III, 13: the second is not in the first one's way", x, 0, 1);
    Check.rules(x, "job 1 before 0");
    due("III, 13: the second finds no hour ahead", x.each(), 1);
    hours("III, 13: the second finds no hour ahead", x, 0, -1);
    x.put(1, 0);
    due("III, 12: together there is one", x.whole(), 120000);
    hours("III, 12: the second first", x, 1, 0);
  }

  /** Term III: "JOBS that are PLANNED for NOW are DONE. NOW is one more". */
  private static void hourGoesBy() {
    PlugHours x = Edges.home(1000);
    for (int j = 0; j < 4; j++) job(x, j, j, 10);
    for (int j = 0; j < 3; j++) x.put(j, j);
    due("III, 18: one", x.go(1), 1);
    due("III: hour 0 is DONE", x.of(0, 4), 2);
    due("III: hour 1 is PLANNED, for NOW", x.of(1, 4), 1);
    due("III, 18: two more", x.go(2), 3);
    due("III: hour 1 is DONE", x.of(1, 4), 2);
    due("III: hour 2 is DONE", x.of(2, 4), 2);
    due("III, 18: on", x.go(5), 8);
    due("III: an OPEN one stays OPEN", x.of(3, 4), 0);
    PlugHours y = Edges.home(1000);
    int[] at = {0, 47, 48};
    for (int hour : at) job(y, hour, hour, 10);
    for (int j = 0; j < 3; j++) y.put(j, at[j]);
    due("III, 18: 48 at once", y.go(48), 48);
    due("III: hour 0", y.of(0, 4), 2);
    due("III: hour 47", y.of(1, 4), 2);
    due("III: hour 48", y.of(2, 4), 1);
  }

  /** Promise 18: "(1 .. 48): NOW. -1, also if it would be above 167". */
  private static void go() {
    EDGES.range("18: go", PlugHours::new, (x, n) -> x.go(n), 1, 48, -1);
    PlugHours x = Edges.home(1000);
    job(x, 167, 167, 10);
    x.put(0, 167);
    for (int i = 1; i <= 3; i++) due("18: 48", x.go(48), 48 * i);
    due("18: to 168", x.go(24), -1);
    due("18: its status", x.status(), -1);
    due("18: NOW stays", x.count(0), 144);
    due("18: 48 is too far, too", x.go(48), -1);
    due("18: to 167", x.go(23), 167);
    due("18: its status", x.status(), 0);
    due("18: one more", x.go(1), -1);
    due("18: NOW stays", x.count(0), 167);
    due("18: hour 167 never goes by", x.of(0, 4), 1);
    due("11: in hour 167 there is a plan still", x.put(0, 167), 0);
    due("12: and a whole one", x.whole(), 1000);
  }

  /** Promise 19: BASE and JOBS "that are PLANNED or DONE" in each of their HOURS, and no other; "NONE". */
  private static void load() {
    PlugHours x = Edges.home(1000);
    x.home(1000);
    x.base(0, 4, 5);
    x.job(0, 0, 9, 4, 10, 20, 30, 40);
    due("19: OPEN", x.load(0, 4), 5);
    x.put(0, 2);
    int[] want = {0, 0, 10, 20, 35, 40, 0};
    for (int hour = 0; hour < want.length; hour++) due("19: PLANNED, hour " + hour, x.load(0, hour), want[hour]);
    due("19: of another home", x.load(1, 4), 0);
    x.go(4);
    for (int hour = 0; hour < want.length; hour++) due("19: DONE, hour " + hour, x.load(0, hour), want[hour]);
    int[] none = {2, 3, 4, -1, Integer.MIN_VALUE, Integer.MAX_VALUE};
    for (int home : none) due("19: there is no home " + home, x.load(home, 4), -1);
    x.job(0, 164, 164, 4, 1, 2, 3, 4);
    x.put(1, 164);
    for (int k = 0; k < 4; k++) due("19: to the last hour", x.load(0, 164 + k), k + 1);
    due("19: beyond it", x.load(0, 168), -1);
  }

  /** Promise 20: "COST of a JOB that is PLANNED or DONE, as known in an HOUR; 0 without". */
  private static void cost() {
    PlugHours x = Edges.home(1000);
    x.job(0, 164, 164, 4, 1, 10, 100, 0);
    x.price(164, 2, 0);
    x.price(167, 9999, 0);
    x.price(165, 5, 7);
    x.price(165, 6, 1000);
    x.price(166, -3, 1000);
    due("20: OPEN", x.cost(0, 0), 0);
    x.put(0, 164);
    due("20: as known in 0", x.cost(0, 0), 2 + 1000 + 10000);
    due("20: as known in 6", x.cost(0, 6), 2 + 1000 + 10000);
    due("20: as known in 7", x.cost(0, 7), 2 + 50 + 10000);
    due("20: as known in 999", x.cost(0, 999), 2 + 50 + 10000);
    due("20: as known in 1000", x.cost(0, 1000), 2 + 60 - 300);
    int[] wrong = {-1, 1001, Integer.MIN_VALUE, Integer.MAX_VALUE};
    for (int known : wrong) due("20: known in " + known, x.cost(0, known), 0);
    int[] none = {1, 15, 16, -1, Integer.MIN_VALUE, Integer.MAX_VALUE};
    for (int job : none) due("20: there is no job " + job, x.cost(job, 0), 0);
    for (int i = 0; i < 3; i++) x.go(48);
    x.go(21);
    due("20: DONE", x.of(0, 4), 2);
    due("20: of a DONE one", x.cost(0, 7), 2 + 50 + 10000);
  }

  /** Term III: SAVED goes "over JOBS that are DONE", against "the first HOUR of its window"; it may be below 0. */
  private static void saved() {
    PlugHours x = Edges.home(1000);
    x.job(0, 0, 5, 2, 10, 1, 0, 0);
    x.job(0, 1, 5, 1, 100, 0, 0, 0);
    x.price(3, 90, 0);
    x.put(0, 3);
    x.put(1, 4);
    due("III, 21: none is DONE", x.saved(0), 0);
    x.go(3);
    due("III, 21: PLANNED for NOW is not DONE", x.saved(0), 0);
    x.go(1);
    due("III, 21: the first", x.saved(0), 100);
    x.go(1);
    due("III, 21: the second saved nothing", x.saved(0), 100);
    x.price(1, 30, 5);
    due("III, 21: as known in 4", x.saved(4), 100);
    due("III, 21: as known in 5, below 0", x.saved(5), 100 - 70 - 7000);
    due("III, 21: as known in 1000", x.saved(1000), 100 - 70 - 7000);
    int[] wrong = {-1, 1001, Integer.MIN_VALUE, Integer.MAX_VALUE};
    for (int known : wrong) due("21: known in " + known + " is 0", x.saved(known), 0);
  }

  /** Term III: a PLAIN day up to 167 counts whole (one beyond it would be a JOB's that can't begin: it is never DONE). */
  private static void savedAtTheEnd() {
    PlugHours x = Edges.home(5000);
    x.job(0, 162, 167, 4, 1, 10, 100, 1000);
    x.job(0, 165, 167, 4, 1, 10, 100, 1000);
    x.price(167, 200, 0);
    x.price(162, 300, 0);
    due("III, 11: to the last hour", x.put(0, 164), 0);
    due("III, 11: beyond it", x.put(1, 165), -6);
    for (int i = 0; i < 3; i++) x.go(48);
    x.go(21);
    due("III, 21: its last hour is dearer, its plain day's first", x.saved(0), 300 - 100 + 1000 * (100 - 200));
    x.go(2);
    due("III, 21: the other one never began", x.saved(0), 300 - 100 + 1000 * (100 - 200));
    due("III: it is OPEN", x.of(1, 4), 0);
  }

  /** Term III: SAVED of sixteen of the dearest is more than an int holds. */
  private static void savedMuch() {
    PlugHours x = new PlugHours();
    for (int h = 0; h < 4; h++) x.home(20000);
    for (int j = 0; j < 16; j++) x.job(j / 4, 0, 4, 4, 5000, 5000, 5000, 5000);
    for (int t = 0; t < 4; t++) x.price(t, 10000, 0);
    for (int t = 4; t < 8; t++) x.price(t, -1000, 0);
    due("III, 13: all", x.each(), 0);
    for (int j = 0; j < 16; j++) due("III, 13: job " + j, x.of(j, 5), 4);
    x.go(5);
    due("III, 21: much", x.saved(0), 16L * 4 * 5000 * 11000);
  }

  public static void main(String[] args) {
    atMostFive();
    alike();
    leastByOne();
    widest();
    wholeBefore();
    wholeBorne();
    allOthers();
    noWay();
    asKnownInNow();
    farCosts();
    eachAlike();
    eachOpen();
    eachThen();
    hourGoesBy();
    go();
    load();
    cost();
    saved();
    savedAtTheEnd();
    savedMuch();
    CHECK.end("EdgesPlansTest");
  }
}
