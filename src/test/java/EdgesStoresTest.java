/** Boundary cases of term IV (stores and their fillings), and of promises 22 to 25. */
public final class EdgesStoresTest {
  private static final Check CHECK = new Check();
  private static final Edges EDGES = new Edges(CHECK);
  private static final long BAD_NUMBER = PlugHours.BEYOND - 1;
  private static final long NO_SUCH = PlugHours.BEYOND - 2;
  private static final long NO_WAY = PlugHours.BEYOND - 6;

  private static void due(String what, long got, long want) { CHECK.due(what, got, want); }

  private static PlugHours oneHome() { return Edges.home(20000); }

  /** A home that draws 5000 watts in each hour, and a store there of levels of 100 watts without LOSS. */
  private static PlugHours store(int most, int level, int in, int out) {
    PlugHours x = oneHome();
    for (int hour = 0; hour < 24; hour++) x.base(0, hour, 5000);
    due("a store", x.store(0, most, level, in, out, 0, 100), 0);
    return x;
  }

  /** A store without moves, of so much LOSS. */
  private static PlugHours leaking(int most, int level, int loss) {
    PlugHours x = oneHome();
    due("a store", x.store(0, most, level, 0, 0, loss, 100), 0);
    return x;
  }

  /** The latest filling's moves or levels; behind them there is nothing. */
  private static void row(String what, PlugHours x, int which, int... want) {
    for (int i = 0; i < want.length; i++) due(what + ": filled(" + i + ", " + which + ")", x.filled(i, which), want[i]);
    due(what + ": no more", x.filled(want.length, which), -1000);
  }

  /** Term IV: "STORES 0 .. 5 (6 at most)"; promise 22: "-5". */
  private static void mostStores() {
    PlugHours x = oneHome();
    for (int i = 0; i < 6; i++) due("IV, 22: store " + i, x.store(0, 10, i, 1, 1, 0, 1), i);
    due("IV, 22: the seventh", x.store(0, 10, 6, 1, 1, 0, 1), -5);
    due("IV, 22: its status", x.status(), -5);
    due("IV, 26: six", x.count(5), 6);
    due("IV, 23: store 5", x.level(5, 0), 5);
    due("IV, 23: there is no store 6", x.level(6, 0), -2);
    due("IV, 24: there is no store 6", x.fill(6, 1, 0), NO_SUCH);
  }

  /** Term IV: MOST (1 .. 40), LEVEL, IN and OUT (0 .. 10), LOSS (0 .. 3), watts (1 .. 1000). */
  private static void storeRanges() {
    EDGES.range("IV, 22: MOST", EdgesStoresTest::oneHome, (x, v) -> x.store(0, v, 0, 0, 0, 0, 1), 1, 40, -1);
    EDGES.range("IV, 22: LEVEL of 40", EdgesStoresTest::oneHome, (x, v) -> x.store(0, 40, v, 0, 0, 0, 1), 0, 40, -1);
    EDGES.range("IV, 22: LEVEL of 7", EdgesStoresTest::oneHome, (x, v) -> x.store(0, 7, v, 0, 0, 0, 1), 0, 7, -1);
    EDGES.range("IV, 22: LEVEL of 1", EdgesStoresTest::oneHome, (x, v) -> x.store(0, 1, v, 0, 0, 0, 1), 0, 1, -1);
    EDGES.range("IV, 22: IN", EdgesStoresTest::oneHome, (x, v) -> x.store(0, 5, 0, v, 0, 0, 1), 0, 10, -1);
    EDGES.range("IV, 22: OUT", EdgesStoresTest::oneHome, (x, v) -> x.store(0, 5, 0, 0, v, 0, 1), 0, 10, -1);
    EDGES.range("IV, 22: LOSS", EdgesStoresTest::oneHome, (x, v) -> x.store(0, 5, 0, 0, 0, v, 1), 0, 3, -1);
    EDGES.range("IV, 22: watts", EdgesStoresTest::oneHome, (x, v) -> x.store(0, 5, 0, 0, 0, 0, v), 1, 1000, -1);
    PlugHours x = oneHome();
    due("22: MOST and LEVEL both wrong", x.store(0, 41, 41, 0, 0, 0, 1), -1);
    due("22: none was made", x.count(5), 0);
  }

  /** Term IV: each STORE is "in a HOME": that one's FUSE, BASE and JOBS count. */
  private static void ofItsHome() {
    PlugHours x = Edges.home(100);
    x.home(300);
    x.base(1, 0, 100);
    x.store(1, 10, 5, 5, 5, 0, 100);
    x.store(0, 10, 5, 5, 5, 0, 100);
    due("IV, 24: home 1 needs a level", x.fill(0, 1, 0), -10000);
    due("IV, 24: home 0 needs none", x.fill(1, 1, 0), 0);
    x.plain(-100);
    due("IV, 24: home 1 bears two levels more", x.fill(0, 1, 0), -20000);
    due("IV, 24: home 0 bears one", x.fill(1, 1, 0), -10000);
  }

  /** Promise 22: "-2". */
  private static void noSuchHome() {
    PlugHours x = oneHome();
    int[] none = {1, 3, 4, -1, Integer.MIN_VALUE, Integer.MAX_VALUE};
    for (int home : none) {
      due("22: there is no home " + home, x.store(home, 5, 0, 0, 0, 0, 1), -2);
      due("22: its status", x.status(), -2);
    }
  }

  /** Promise 23: "what it was. -1; -2": levels 0 .. MOST of that store. */
  private static void level() {
    EDGES.range("23: of 7", () -> store(7, 3, 0, 0), (x, v) -> x.level(0, v), 0, 7, -1);
    EDGES.range("23: of 40", () -> store(40, 3, 0, 0), (x, v) -> x.level(0, v), 0, 40, -1);
    PlugHours x = store(7, 3, 0, 0);
    due("23: what it was", x.level(0, 7), 3);
    due("23: too high", x.level(0, 8), -1);
    due("23: its status", x.status(), -1);
    due("23: it stays", x.level(0, 0), 7);
    due("23: its status", x.status(), 0);
    due("23: below 0", x.level(0, -1), -1);
    due("23: 0 is what it was", x.level(0, 1), 0);
    int[] none = {1, 5, 6, -1, Integer.MIN_VALUE, Integer.MAX_VALUE};
    for (int s : none) {
      due("23: there is no store " + s, x.level(s, 0), -2);
      due("23: its status", x.status(), -2);
    }
    x.store(0, 9, 0, 0, 0, 0, 1);
    due("23: MOST is each one's own", x.level(1, 9), 0);
    due("23: MOST is each one's own", x.level(0, 9), -1);
  }

  /** Term IV: "FILLING for n HOURS (1 .. 48)"; promise 24: "also n HOURS beyond 167". */
  private static void hours() {
    EDGES.range("IV, 24: n", () -> store(7, 3, 0, 0), (x, n) -> x.fill(0, n, 0), 1, 48, BAD_NUMBER);
    int[] nows = {119, 120, 121, 166, 167};
    int[] most = {48, 48, 47, 2, 1};
    for (int i = 0; i < nows.length; i++) {
      PlugHours x = leaking(7, 3, 0);
      Edges.goTo(x, nows[i]);
      due("24: " + most[i] + " from " + nows[i], x.fill(0, most[i], 3), 0);
      due("24: its status", x.status(), 0);
      due("25: its last hour", x.filled(most[i] - 1, 1), 3);
      due("25: no more", x.filled(most[i], 1), -1000);
      due("24: one more from " + nows[i], x.fill(0, most[i] + 1, 3), BAD_NUMBER);
      due("24: its status", x.status(), -1);
    }
  }

  /** Term IV: FILLING goes "from NOW", its first HOUR is NOW and its last is n - 1 behind. */
  private static void fromNow() {
    PlugHours x = store(9, 0, 9, 0);
    for (int t = 0; t <= 167; t++) x.price(t, t, 0);
    Edges.goTo(x, 166);
    due("IV, 24: NOW is the cheaper", x.fill(0, 2, 3), 3 * 100 * 166);
    row("IV, 25", x, 0, 3, 0);
    PlugHours y = store(9, 9, 0, 9);
    for (int t = 0; t <= 10; t++) y.price(t, t, 0);
    Edges.goTo(y, 4);
    due("IV, 24: the last hour is the dearest", y.fill(0, 3, 0), -9 * 100 * 6);
    row("IV, 25", y, 0, 0, 0, -9);
  }

  /** Term IV: "not more than IN, OUT". */
  private static void inAndOut() {
    int[] ends = {0, 1, 9, 10};
    for (int most : ends) {
      PlugHours x = store(40, 20, most, most);
      due("IV, 24: as much as IN " + most, x.fill(0, 1, 20 + most), most * 10000);
      row("IV, 25", x, 0, most);
      due("IV, 24: more than IN " + most, x.fill(0, 1, 21 + most), NO_WAY);
      due("IV, 24: its status", x.status(), -6);
      due("IV, 24: in two hours", x.fill(0, 2, 20 + 2 * most), 2 * most * 10000);
      due("IV, 24: as much as OUT " + most, x.fill(0, 1, 0), -most * 10000);
      row("IV, 25", x, 0, -most);
      x.plain(-100);
      due("IV, 24: paid for as much as IN " + most, x.fill(0, 1, 0), -most * 10000);
    }
    PlugHours x = store(40, 20, 3, 0);
    due("IV, 24: OUT is not IN", x.fill(0, 1, 0), 0);
    PlugHours y = store(40, 20, 0, 3);
    due("IV, 24: IN is not OUT", y.fill(0, 1, 21), NO_WAY);
  }

  /** Term IV: LOSS "(0 .. 3 levels, not below level 0)". */
  private static void loss() {
    for (int loss = 0; loss <= 3; loss++) {
      for (int level = 0; level <= 4; level++) {
        PlugHours x = leaking(4, level, loss);
        int left = Math.max(0, level - loss);
        due("IV, 24: " + level + " less " + loss, x.fill(0, 1, left), 0);
        row("IV, 25", x, 1, left);
        row("IV, 25", x, 0, 0);
        if (left < 4) due("IV, 24: more than is left", x.fill(0, 1, left + 1), NO_WAY);
      }
    }
    PlugHours x = leaking(10, 10, 3);
    due("IV, 24: hour by hour", x.fill(0, 5, 0), 0);
    row("IV, 25: hour by hour", x, 1, 7, 4, 1, 0, 0);
  }

  /** Term IV: "levels are 0 .. MOST ahead of LOSS and behind it". */
  private static void levels() {
    PlugHours x = store(10, 9, 10, 10);
    due("IV, 24: to MOST", x.fill(0, 1, 10), 10000);
    x.plain(-100);
    due("IV, 24: not above MOST", x.fill(0, 1, 0), -10000);
    row("IV, 25", x, 1, 10);
    x.plain(100);
    x.level(0, 3);
    due("IV, 24: not below 0", x.fill(0, 1, 0), -30000);
    row("IV, 25", x, 1, 0);
    PlugHours y = oneHome();
    y.base(0, 0, 5000);
    y.store(0, 10, 10, 10, 10, 3, 100);
    due("IV, 24: LOSS makes no room ahead of itself", y.fill(0, 1, 8), NO_WAY);
    due("IV, 24: what is left of MOST", y.fill(0, 1, 7), 0);
    y.plain(-100);
    due("IV, 24: full, paid for nothing", y.fill(0, 1, 0), 0);
    due("IV, 24: in the second hour there is room for 3", y.fill(0, 2, 0), -30000);
    row("IV, 25: or for what was taken out, too", y, 0, -7, 10);
    y.base(0, 0, 0);
    due("IV, 24: nothing can be taken out", y.fill(0, 2, 0), -30000);
    row("IV, 25: room for 3", y, 0, 0, 3);
    y.base(0, 0, 5000);
    y.plain(100);
    y.level(0, 2);
    due("IV, 24: taken out ahead of LOSS", y.fill(0, 1, 0), -20000);
    row("IV, 25", y, 0, -2);
    due("IV, 24: put in ahead of LOSS", y.fill(0, 1, 5), 60000);
    row("IV, 25", y, 1, 5);
  }

  /** Term IV: "the last is not below WISH (0 .. MOST)". */
  private static void wish() {
    EDGES.range("IV, 24: WISH of 7", () -> store(7, 7, 0, 0), (x, w) -> x.fill(0, 1, w), 0, 7, BAD_NUMBER);
    EDGES.range("IV, 24: WISH of 40", () -> store(40, 40, 0, 0), (x, w) -> x.fill(0, 1, w), 0, 40, BAD_NUMBER);
    PlugHours x = store(10, 5, 1, 10);
    due("IV, 24: all that is above it goes out", x.fill(0, 1, 2), -30000);
    due("IV, 24: it is there already", x.fill(0, 1, 5), 0);
    due("IV, 24: just reached", x.fill(0, 1, 6), 10000);
    due("IV, 24: not reached", x.fill(0, 1, 7), NO_WAY);
    due("IV, 24: reached in two hours", x.fill(0, 2, 7), 20000);
    x.price(0, 200, 0);
    due("IV, 24: below it on the way", x.fill(0, 2, 1), -5 * 20000 + 10000);
    row("IV, 25: below it on the way", x, 1, 0, 1);
    x.plain(-10);
    due("IV, 24: it may be above it", x.fill(0, 1, 0), -5 * 20000);
    x.price(0, -10, 0);
    due("IV, 24: it may be above it", x.fill(0, 1, 0), -1000);
    row("IV, 25: above it", x, 1, 6);
  }

  /** Term IV: put in: BASE, JOBS and its watts "are not above FUSE". */
  private static void fuse() {
    PlugHours x = Edges.home(1000);
    x.home(20000);
    x.plain(-1);
    x.base(0, 0, 500);
    x.store(0, 40, 0, 10, 10, 0, 100);
    due("IV, 24: 500 and 500 is 1000", x.fill(0, 1, 0), -500);
    x.base(0, 0, 501);
    due("IV, 24: one watt less", x.fill(0, 1, 0), -400);
    x.base(0, 0, 500);
    x.job(0, 0, 0, 2, 100, 0, 0, 0);
    due("IV, 24: OPEN ones need nothing", x.fill(0, 1, 0), -500);
    x.put(0, 0);
    due("IV, 24: PLANNED ones do", x.fill(0, 1, 0), -400);
    x.base(0, 0, 900);
    due("IV, 24: just full", x.fill(0, 1, 0), 0);
    row("IV, 25", x, 0, 0);
    x.base(0, 0, 901);
    due("IV, 24: above it without the store: it may stand still", x.fill(0, 1, 0), 0);
    row("IV, 25", x, 0, 0);
    due("IV, 24: but no more", x.fill(0, 1, 1), NO_WAY);
    x.job(0, 0, 0, 3, 0, 1, 950, 0);
    x.base(0, 0, 0);
    x.put(1, 0);
    x.go(1);
    due("IV: both are DONE", x.count(9), 2);
    due("IV, 24: 1 watt of a DONE one", x.fill(0, 1, 0), -900);
    due("IV, 24: 950 in its next hour", x.fill(0, 2, 0), -900);
    row("IV, 25", x, 0, 9, 0);
    x.cable(0);
    due("IV, 24: CABLE is not named", x.fill(0, 1, 0), -900);
    x.store(0, 40, 0, 10, 10, 0, 100);
    due("IV, 24: nor are other stores", x.fill(1, 1, 0), -900);
    x.base(1, 1, 5000);
    due("IV, 24: nor other homes", x.fill(0, 1, 0), -900);
    PlugHours y = Edges.home(999);
    y.plain(-1);
    y.store(0, 40, 0, 10, 10, 0, 1000);
    due("IV, 24: a level of more watts than the fuse's", y.fill(0, 1, 0), 0);
  }

  /** Term IV: taken out: "no more watts than these need". */
  private static void needed() {
    PlugHours x = Edges.home(1000);
    x.store(0, 40, 40, 10, 10, 0, 100);
    due("IV, 24: nothing is needed", x.fill(0, 1, 0), 0);
    x.base(0, 0, 99);
    due("IV, 24: less than a level", x.fill(0, 1, 0), 0);
    x.base(0, 0, 100);
    due("IV, 24: a level", x.fill(0, 1, 0), -10000);
    x.base(0, 0, 299);
    due("IV, 24: not quite three", x.fill(0, 1, 0), -20000);
    x.base(0, 0, 300);
    due("IV, 24: three", x.fill(0, 1, 0), -30000);
    x.job(0, 0, 0, 2, 100, 200, 0, 0);
    due("IV, 24: OPEN ones need nothing", x.fill(0, 1, 0), -30000);
    x.put(0, 0);
    due("IV, 24: PLANNED ones do", x.fill(0, 1, 0), -40000);
    due("IV, 24: in their second hour, too", x.fill(0, 2, 0), -60000);
    due("IV, 24: but not behind it", x.fill(0, 3, 0), -60000);
    row("IV, 25", x, 0, -4, -2, 0);
    x.go(1);
    due("IV, 24: and DONE ones", x.fill(0, 1, 0), -20000);
    x.base(0, 1, 5000);
    due("IV, 24: above FUSE, and OUT is 10", x.fill(0, 1, 0), -100000);
    x.home(1000);
    x.base(1, 2, 5000);
    due("IV, 24: of its own home alone", x.fill(0, 2, 30), -100000);
  }

  /** Term IV: the least COST; "of those alike the first as rows (the lower, taken out first)". */
  private static void alike() {
    PlugHours x = store(10, 5, 2, 2);
    due("IV, 24: nothing to gain", x.fill(0, 3, 5), 0);
    row("IV, 25: out first, then in", x, 0, -2, 0, 2);
    row("IV, 25: its levels", x, 1, 3, 3, 5);
    due("IV, 24: one level in two hours", x.fill(0, 2, 6), 10000);
    row("IV, 25: the lower first", x, 0, -1, 2);
    due("IV, 24: one level out", x.fill(0, 2, 4), -10000);
    row("IV, 25: the lower first", x, 0, -2, 1);
    x.plain(0);
    due("IV, 24: for nothing", x.fill(0, 3, 0), 0);
    row("IV, 25: all goes out", x, 0, -2, -2, -1);
    due("IV, 24: for nothing, but not so much", x.fill(0, 2, 10), NO_WAY);
    due("IV, 24: for nothing, but a wish", x.fill(0, 3, 7), 0);
    row("IV, 25: the lower first", x, 0, -2, 2, 2);
    x.price(0, 1, 0);
    due("IV, 24: one that costs less goes ahead of a lower one", x.fill(0, 2, 7), 0);
    row("IV, 25", x, 0, 0, 2);
    x.price(0, -1, 0);
    due("IV, 24: one that costs less goes ahead of a lower one", x.fill(0, 2, 0), -200);
    row("IV, 25", x, 0, 2, -2);
  }

  /** Term IV: "The FILLING with the least COST", also when it is the least by one. */
  private static void leastByOne() {
    PlugHours x = Edges.home(1);
    x.base(0, 1, 1);
    x.store(0, 5, 0, 1, 1, 0, 1);
    x.price(0, 2, 0);
    x.price(1, 3, 0);
    x.price(2, 1, 0);
    due("IV, 24: bought and sold, by one", x.fill(0, 3, 1), 2 - 3 + 1);
    row("IV, 25: bought and sold, by one", x, 0, 1, -1, 1);
    x.price(1, 2, 0);
    due("IV, 24: alike", x.fill(0, 3, 1), 1);
    row("IV, 25: the lower first", x, 0, 0, 0, 1);
    x.price(1, 1, 0);
    due("IV, 24: by one not", x.fill(0, 3, 1), 1);
    row("IV, 25: alike in hours 1 and 2", x, 0, 0, 0, 1);
  }

  /** Term IV: COST by the "PRICE as known in NOW (taken out: less)". */
  private static void asKnownInNow() {
    PlugHours x = store(10, 5, 2, 2);
    x.price(3, 50, 2);
    x.price(3, 40, 3);
    due("IV, 24: NOW 0", x.fill(0, 4, 7), 20000);
    x.go(2);
    due("IV, 24: NOW 2", x.fill(0, 2, 7), 10000);
    row("IV, 25: NOW 2", x, 0, 0, 2);
    x.go(1);
    due("IV, 24: NOW 3", x.fill(0, 1, 7), 8000);
    due("IV, 24: NOW 3, taken out", x.fill(0, 1, 0), -8000);
    x.plain(-1000);
    x.price(3, -1000, 0);
    due("IV, 24: the lowest price", x.fill(0, 1, 0), -200000);
    x.price(3, 10000, 0);
    due("IV, 24: the highest price", x.fill(0, 1, 0), -2000000);
    due("IV, 24: the highest price", x.fill(0, 1, 7), 2000000);
  }

  /** Term IV: the longest and dearest: more than an int holds. */
  private static void much() {
    PlugHours x = oneHome();
    for (int hour = 0; hour < 24; hour++) x.base(0, hour, 5000);
    for (int j = 0; j < 12; j++) x.job(0, 4 * j, 4 * j, 4, 5000, 5000, 5000, 5000);
    for (int j = 0; j < 12; j++) x.put(j, 4 * j);
    for (int t = 0; t < 48; t++) x.price(t, t % 2 == 0 ? -1000 : 10000, 0);
    x.store(0, 40, 0, 10, 10, 0, 1000);
    due("IV, 24: ten levels each hour, in and out", x.fill(0, 48, 0), -24L * 10 * 1000 * 11000);
    for (int i = 0; i < 48; i++) due("IV, 25: hour " + i, x.filled(i, 0), i % 2 == 0 ? 10 : -10);
  }

  /** Promise 24: "kept as the latest (LEVEL stays)"; promise 25: what there is of it, "-1000 without". */
  private static void latest() {
    PlugHours x = store(10, 5, 2, 2);
    row("25: none yet", x, 0);
    row("25: none yet", x, 1);
    due("24: a first one", x.fill(0, 2, 8), 30000);
    row("25: its moves", x, 0, 1, 2);
    row("25: its levels", x, 1, 6, 8);
    int[] wrong = {-1, 2, 47, 48, Integer.MIN_VALUE, Integer.MAX_VALUE};
    for (int i : wrong) due("25: there is no hour " + i, x.filled(i, 0), -1000);
    int[] whats = {-1, 2, Integer.MIN_VALUE, Integer.MAX_VALUE};
    for (int what : whats) due("25: there is no " + what, x.filled(0, what), -1000);
    due("24: LEVEL stays", x.level(0, 5), 5);
    due("24: there is none", x.fill(0, 2, 10), NO_WAY);
    due("24: a number that can't be", x.fill(0, 0, 0), BAD_NUMBER);
    due("24: no such store", x.fill(1, 1, 0), NO_SUCH);
    row("25: the latest is still the first", x, 0, 1, 2);
    row("25: the latest is still the first", x, 1, 6, 8);
    x.level(0, 0);
    x.plain(7);
    x.go(1);
    row("25: other calls leave it", x, 1, 6, 8);
    due("24: a shorter one", x.fill(0, 1, 1), 700);
    row("25: it takes its place", x, 0, 1);
    x.store(0, 4, 4, 0, 0, 1, 1);
    due("24: of another store", x.fill(1, 3, 1), 0);
    row("25: the latest of all", x, 1, 3, 2, 1);
    int[] none = {2, 5, 6, -1, Integer.MIN_VALUE, Integer.MAX_VALUE};
    for (int s : none) {
      due("24: there is no store " + s, x.fill(s, 1, 0), NO_SUCH);
      due("24: its status", x.status(), -2);
    }
  }

  public static void main(String[] args) {
    mostStores();
    storeRanges();
    ofItsHome();
    noSuchHome();
    level();
    hours();
    fromNow();
    inAndOut();
    loss();
    levels();
    wish();
    fuse();
    needed();
    alike();
    leastByOne();
    asKnownInNow();
    much();
    latest();
    CHECK.end("EdgesStoresTest");
  }
}
