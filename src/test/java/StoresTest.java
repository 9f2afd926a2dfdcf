/** Promises 22 to 27: stores, their fillings, counts and status. */
public final class StoresTest {
  private static final Check CHECK = new Check();

  private static void due(String what, long got, long want) { CHECK.due(what, got, want); }

  private static void row(String what, PlugHours x, int which, int... want) {
    for (int i = 0; i < want.length; i++) due(what + ": filled(" + i + ", " + which + ")", x.filled(i, which), want[i]);
    due(what + ": no more", x.filled(want.length, which), -1000);
  }

  private static void store() {
    PlugHours x = new PlugHours();
    due("22: no such home", x.store(0, 1, 0, 0, 0, 0, 1), -2);
    x.home(1000);
    int[][] wrong = {{0, 0, 0, 0, 0, 0, 1}, {0, 41, 0, 0, 0, 0, 1}, {0, 5, -1, 0, 0, 0, 1}, {0, 5, 6, 0, 0, 0, 1},
        {0, 5, 5, -1, 0, 0, 1}, {0, 5, 5, 11, 0, 0, 1}, {0, 5, 5, 0, -1, 0, 1}, {0, 5, 5, 0, 11, 0, 1},
        {0, 5, 5, 0, 0, -1, 1}, {0, 5, 5, 0, 0, 4, 1}, {0, 5, 5, 0, 0, 0, 0}, {9, 5, 5, 0, 0, 0, 1001}};
    for (int[] w : wrong) due("22: a wrong number", x.store(w[0], w[1], w[2], w[3], w[4], w[5], w[6]), -1);
    due("22: no such home", x.store(1, 1, 0, 0, 0, 0, 1), -2);
    due("22: no such home", x.store(-1, 1, 0, 0, 0, 0, 1), -2);
    due("22: low edges", x.store(0, 1, 0, 0, 0, 0, 1), 0);
    due("22: high edges", x.store(0, 40, 40, 10, 10, 3, 1000), 1);
    for (int i = 2; i < 6; i++) due("22: store " + i, x.store(0, 4, 2, 1, 1, 1, 10), i);
    due("22: the 7th", x.store(0, 4, 2, 1, 1, 1, 10), -5);
    due("27: status", x.status(), -5);
    due("26: STORES", x.count(5), 6);
    due("23: above MOST", x.level(2, 5), -1);
    due("23: below 0", x.level(2, -1), -1);
    due("23: no such store", x.level(6, 0), -2);
    due("23: no such store", x.level(-1, 40), -2);
    due("23: a level that no store can have goes first", x.level(6, 41), -1);
    due("23: what it was", x.level(2, 4), 2);
    due("23: what it was then", x.level(2, 0), 4);
    due("23: MOST of its own", x.level(0, 2), -1);
    due("23: of another", x.level(1, 0), 40);
  }

  private static void refusals() {
    PlugHours x = new PlugHours();
    x.home(1000);
    x.store(0, 4, 2, 1, 1, 0, 100);
    long[][] wrong = {{0, 0, 0}, {0, -1, 0}, {0, 49, 0}, {0, 1, -1}, {0, 1, 5}, {3, 0, 0}, {3, 1, 41}};
    for (long[] w : wrong) due("24: a wrong number", x.fill((int) w[0], (int) w[1], (int) w[2]), PlugHours.BEYOND - 1);
    due("27: status", x.status(), -1);
    due("24: no such store", x.fill(1, 1, 0), PlugHours.BEYOND - 2);
    due("24: no such store", x.fill(-1, 1, 0), PlugHours.BEYOND - 2);
    due("27: status", x.status(), -2);
    due("24: too high a wish", x.fill(0, 1, 4), PlugHours.BEYOND - 6);
    due("27: status", x.status(), -6);
    row("25: none yet", x, 0);
    due("24: 48 hours", x.fill(0, 48, 4), 2 * 100 * 100);
    due("27: status", x.status(), 0);
    due("25: its last hour", x.filled(47, 1), 4);
    due("25: what -1", x.filled(0, -1), -1000);
    due("25: what 2", x.filled(0, 2), -1000);
    due("25: hour -1", x.filled(-1, 0), -1000);
    due("25: hour 48", x.filled(48, 0), -1000);
    x.fill(0, 1, 4);
    due("25: a refused one leaves the latest", x.filled(47, 1), 4);
    x.fill(0, 2, 0);
    due("25: a shorter one", x.filled(2, 0), -1000);
    x.go(48);
    x.go(48);
    x.go(48);
    due("24: to the last hour", x.fill(0, 24, 0), 0);
    due("24: beyond it", x.fill(0, 25, 0), PlugHours.BEYOND - 1);
    x.go(23);
    due("24: one is left", x.fill(0, 1, 0), 0);
    due("24: two are not", x.fill(0, 2, 0), PlugHours.BEYOND - 1);
    due("23: LEVEL stays", x.level(0, 0), 2);
  }

  private static void byPrice() {
    PlugHours x = new PlugHours();
    x.home(1000);
    x.plain(50);
    x.price(0, 10, 0);
    x.price(2, 80, 0);
    for (int t = 0; t < 24; t++) x.base(0, t, 200);
    x.store(0, 10, 0, 3, 2, 0, 100);
    due("24: bought at 10, sold at 50 and 80", x.fill(0, 3, 0), 3000 - 5000 - 16000);
    row("25", x, 0, 3, -1, -2);
    row("25", x, 1, 3, 2, 0);
    due("24: one hour", x.fill(0, 1, 0), 0);
    row("25: nothing to take out", x, 0, 0);
    due("24: wish", x.fill(0, 1, 3), 3000);
    due("24: two more than that hour gives", x.fill(0, 2, 6), 3000 + 15000);
    x.plain(10);
    due("24: alike: the lower first", x.fill(0, 2, 2), 2000);
    row("25: the lower first", x, 0, 0, 2);
    x.plain(0);
    x.level(0, 5);
    due("24: out for 10 and for 80", x.fill(0, 3, 0), -2 * 1000 - 2 * 8000);
    row("25: for nothing it goes out all the same", x, 0, -2, -1, -2);
    x.plain(-1000);
    x.price(0, -1000, 0);
    x.price(2, -1000, 0);
    due("24: below 0 all is put in", x.fill(0, 2, 0), -5 * 100 * 1000);
    row("25: the lower first", x, 0, 2, 3);
  }

  private static void fuse() {
    PlugHours x = new PlugHours();
    x.home(1000);
    x.home(1000);
    x.plain(-10);
    x.base(0, 0, 500);
    x.store(0, 40, 0, 10, 10, 0, 100);
    due("24: the fuse bears five", x.fill(0, 1, 0), -5000);
    x.job(0, 0, 0, 1, 250, 0, 0, 0);
    due("24: OPEN ones draw nothing", x.fill(0, 1, 0), -5000);
    x.put(0, 0);
    due("24: PLANNED ones do", x.fill(0, 1, 0), -2000);
    x.job(1, 0, 0, 1, 1000, 0, 0, 0);
    x.put(1, 0);
    due("24: of its own home", x.fill(0, 1, 0), -2000);
    x.cable(0);
    due("24: the cable does not matter", x.fill(0, 1, 0), -2000);
    x.base(0, 0, 2000);
    due("24: above the fuse already: nothing", x.fill(0, 1, 0), 0);
    x.plain(10);
    x.level(0, 40);
    due("24: but out it may go", x.fill(0, 1, 0), -10000);
    x.base(0, 0, 99);
    due("24: not more than is needed", x.fill(0, 1, 0), -3000);
    x.put(0, 9);
    row("25", x, 0, -3);
    x.go(1);
    due("24: nothing is needed then", x.fill(0, 1, 0), 0);
    due("24: a wish", x.fill(0, 1, 40), 0);
  }

  private static void loss() {
    PlugHours x = new PlugHours();
    x.home(20000);
    x.store(0, 10, 10, 2, 10, 3, 100);
    due("24: no more than MOST ahead of LOSS", x.fill(0, 1, 8), PlugHours.BEYOND - 6);
    due("24: what is left", x.fill(0, 1, 7), 0);
    due("24: two hours", x.fill(0, 2, 6), 20000);
    row("25: late as early: the lower first", x, 0, 0, 2);
    row("25: behind LOSS", x, 1, 7, 6);
    x.level(0, 1);
    due("24: not below 0", x.fill(0, 2, 0), 0);
    row("25: not below 0", x, 1, 0, 0);
    x.store(0, 10, 0, 10, 10, 3, 100);
    x.base(0, 0, 5000);
    x.base(0, 1, 5000);
    x.price(1, 1000, 0);
    due("24: what is lost is bought too", x.fill(1, 2, 0), 10L * 100 * 100 - 7L * 100 * 1000);
    row("25", x, 0, 10, -7);
    row("25", x, 1, 7, 0);
    x.store(0, 40, 0, 10, 10, 0, 1000);
    x.plain(10000);
    due("24: much", x.fill(2, 4, 40), 30L * 1000 * 10000 + 10L * 1000 * 1000);
  }

  private static void counts() {
    PlugHours x = new PlugHours();
    x.home(1000);
    x.home(1000);
    for (int j = 0; j < 6; j++) x.job(0, j, j, 1, 10, 0, 0, 0);
    x.put(0, 0);
    x.put(1, 1);
    x.put(2, 2);
    x.price(0, 1, 0);
    for (int s = 0; s < 5; s++) x.store(0, 1, 0, 0, 0, 0, 1);
    Check.rules(x, "dear 1;dear 2;dear 3;dear 4");
    Check.tape(x, "1234567");
    x.go(1);
    int[] want = {1, 2, 6, 1, 4, 5, 7, 3, 2, 1};
    for (int what = 0; what < 10; what++) due("26: count(" + what + ")", x.count(what), want[what]);
    due("26: what -1", x.count(-1), -1);
    due("26: what 10", x.count(10), -1);
  }

  private static void status() {
    PlugHours x = new PlugHours();
    due("27: ahead of any", x.status(), 0);
    x.home(-1);
    x.at(-1, 0); x.of(0, 0); x.may(0, 0); x.each(); x.feed(0, 0, 0, 0, 0); x.end(0); x.end(1); x.fault(); x.load(0, 0);
    x.cost(0, 0); x.saved(0); x.filled(0, 0); x.count(0);
    due("27: calls that can't be refused leave it", x.status(), -1);
    due("27: asked twice", x.status(), -1);
    x.home(1);
    due("27: home", x.status(), 0);
    x.put(0, 0);
    due("27: put", x.status(), -2);
    x.whole();
    due("27: whole", x.status(), 0);
    x.plain(-2000);
    due("27: plain", x.status(), -1);
    x.rules();
    due("27: rules", x.status(), 0);
    Check.rules(x, "x");
    due("27: rules", x.status(), -6);
    x.go(1);
    due("27: go", x.status(), 0);
    x.go(0);
    due("27: go", x.status(), -1);
    x.cable(5);
    due("27: cable", x.status(), 0);
    x.base(3, 0, 0);
    due("27: base", x.status(), -2);
    x.price(0, 0, 0);
    due("27: price", x.status(), 0);
    x.level(0, 0);
    due("27: level", x.status(), -2);
    x.store(0, 1, 0, 0, 0, 0, 1);
    due("27: store", x.status(), 0);
    x.fill(0, 1, 1);
    due("27: fill", x.status(), -6);
    x.job(0, 0, 0, 1, 1, 0, 0, 0);
    due("27: job", x.status(), 0);
    x.whole();
    due("27: whole", x.status(), -6);
    x.level(0, 1);
    due("27: level", x.status(), 0);
    x.fill(5, 1, 1);
    due("27: fill", x.status(), -2);
    x.fill(0, 1, 1);
    due("27: fill", x.status(), 0);
  }

  public static void main(String[] args) {
    store();
    refusals();
    byPrice();
    fuse();
    loss();
    counts();
    status();
    CHECK.end("StoresTest");
  }
}
