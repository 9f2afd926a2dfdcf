import java.util.function.Consumer;

/** Boundary cases of term I's REFUSED (its order; a refused call changes nothing), and of promises 26 and 27. */
public final class EdgesRefusedTest {
  private static final Check CHECK = new Check();
  private static final Edges EDGES = new Edges(CHECK);
  private static final long BEYOND = PlugHours.BEYOND;

  private static void due(String what, long got, long want) { CHECK.due(what, got, want); }

  /** As many of all as there may be; NOW is 1, job 0 is DONE, the others are OPEN. */
  private static PlugHours full() {
    PlugHours x = new PlugHours();
    for (int i = 0; i < 4; i++) x.home(1000);
    for (int i = 0; i < 16; i++) x.job(i % 4, 0, 5, 1, 10, 0, 0, 0);
    for (int i = 0; i < 6; i++) x.store(i % 4, 5, 2, 1, 1, 0, 10);
    x.put(0, 0);
    x.go(1);
    return x;
  }

  private static PlugHours fullOfPrices() {
    PlugHours x = new PlugHours();
    for (int i = 0; i < 400; i++) x.price(5, 1, 0);
    return x;
  }

  /** Term I: "The first of these in that order": -1 ahead of all. */
  private static void badNumberFirst() {
    PlugHours p = fullOfPrices();
    due("I, 2: -1 ahead of -5", p.price(168, 1, 0), -1);
    due("I, 2: -1 ahead of -5", p.price(5, 10001, 0), -1);
    due("I, 2: -1 ahead of -5", p.price(5, 1, 1001), -1);
    due("I, 2: -5", p.price(5, 1, 0), -5);
    PlugHours x = full();
    due("I, 5: -1 ahead of -5", x.home(20001), -1);
    due("I, 5: -5", x.home(20000), -5);
    due("I, 6: -1 ahead of -2, the hour", x.base(4, 24, 0), -1);
    due("I, 6: -1 ahead of -2, the watts", x.base(4, 0, 5001), -1);
    due("I, 6: -2", x.base(4, 0, 0), -2);
    due("I, 8: -1 ahead of -2, a window", x.job(4, 5, 4, 1, 0, 0, 0, 0), -1);
    due("I, 8: -1 ahead of -2, watts", x.job(4, 5, 5, 1, 5001, 0, 0, 0), -1);
    due("I, 8: -1 ahead of -2, n", x.job(4, 5, 5, 0, 0, 0, 0, 0), -1);
    due("I, 8: -1 ahead of -5", x.job(0, 5, 29, 1, 0, 0, 0, 0), -1);
    due("I, 22: -1 ahead of -2, LEVEL", x.store(4, 5, 6, 0, 0, 0, 1), -1);
    due("I, 22: -1 ahead of -2, watts", x.store(4, 5, 5, 0, 0, 0, 0), -1);
    due("I, 22: -1 ahead of -5", x.store(0, 5, 5, 0, 0, 4, 1), -1);
    due("I, 23: -1 ahead of -2, below 0", x.level(6, -1), -1);
    due("I, 23: -1 ahead of -2, above all that MOST can be", x.level(6, 41), -1);
    due("I, 23: -2, a level that could be", x.level(6, 40), -2);
    due("I, 24: -1 ahead of -2, n", x.fill(6, 49, 0), BEYOND - 1);
    due("I, 24: -1 ahead of -2, WISH", x.fill(6, 1, -1), BEYOND - 1);
    due("I, 24: -1 ahead of -2, above all that MOST can be", x.fill(6, 1, 41), BEYOND - 1);
    due("I, 24: -2, a WISH that could be", x.fill(6, 1, 40), BEYOND - 2);
    due("I, 24: -1 ahead of -6", x.fill(0, 0, 5), BEYOND - 1);
    due("I, 24: -1 ahead of -6, WISH", x.fill(0, 1, 6), BEYOND - 1);
    due("I, 24: -6", x.fill(0, 1, 5), BEYOND - 6);
    x.go(48);
    x.go(48);
    x.go(48);
    due("I, 24: -1 ahead of -2, beyond 167", x.fill(6, 24, 0), BEYOND - 1);
    due("I, 24: -2, to 167", x.fill(6, 23, 0), BEYOND - 2);
  }

  /** Term I: "The first of these in that order": -2 ahead of -5 and -6, -3 ahead of -6, -5 ahead of -6. */
  private static void thenTheOthers() {
    PlugHours x = full();
    due("I, 8: -2 ahead of -5", x.job(4, 5, 5, 1, 0, 0, 0, 0), -2);
    due("I, 8: -5", x.job(3, 5, 5, 1, 0, 0, 0, 0), -5);
    due("I, 22: -2 ahead of -5", x.store(4, 5, 5, 0, 0, 0, 1), -2);
    due("I, 22: -5", x.store(3, 5, 5, 0, 0, 0, 1), -5);
    due("I, 11: -2 ahead of -6", x.put(16, 9), -2);
    due("I, 11: -3 ahead of -6", x.put(0, 9), -3);
    due("I, 11: -3, in an hour that would do", x.put(0, 2), -3);
    due("I, 11: -6", x.put(1, 9), -6);
    x.cable(0);
    due("I, 12: -5 ahead of -6", x.whole(), BEYOND - 5);
  }

  /** Terms I to IV: a call that is REFUSED has done nothing, and status tells by what. */
  private static void nothingChanges() {
    EDGES.refused("2: hour", Edges::street, x -> x.price(168, 5, 0), -1, -1);
    EDGES.refused("2: price", Edges::street, x -> x.price(2, -1001, 0), -1, -1);
    EDGES.refused("2: known", Edges::street, x -> x.price(2, 5, -1), -1, -1);
    EDGES.refused("3: plain", Edges::street, x -> x.plain(10001), -5000, -1);
    EDGES.refused("5: fuse", Edges::street, x -> x.home(-1), -1, -1);
    EDGES.refused("6: hour", Edges::street, x -> x.base(0, 24, 7), -1, -1);
    EDGES.refused("6: watts", Edges::street, x -> x.base(0, 2, 5001), -1, -1);
    EDGES.refused("6: home", Edges::street, x -> x.base(2, 2, 7), -2, -2);
    EDGES.refused("7: cable", Edges::street, x -> x.cable(80001), -1, -1);
    EDGES.refused("8: window", Edges::street, x -> x.job(0, 3, 2, 1, 7, 0, 0, 0), -1, -1);
    EDGES.refused("8: watts", Edges::street, x -> x.job(0, 3, 3, 2, 7, -1, 0, 0), -1, -1);
    EDGES.refused("8: home", Edges::street, x -> x.job(2, 3, 3, 1, 7, 0, 0, 0), -2, -2);
    EDGES.refused("11: job", Edges::street, x -> x.put(4, 3), -2, -2);
    EDGES.refused("11: DONE", Edges::street, x -> x.put(0, 3), -3, -3);
    EDGES.refused("11: PLANNED, where it can't begin", Edges::street, x -> x.put(1, 3), -6, -6);
    EDGES.refused("11: OPEN, where it can't begin", Edges::street, x -> x.put(3, 4), -6, -6);
    EDGES.refused("18: none", Edges::street, x -> x.go(0), -1, -1);
    EDGES.refused("18: too far", Edges::street, x -> x.go(49), -1, -1);
    EDGES.refused("22: most", Edges::street, x -> x.store(0, 0, 0, 1, 1, 0, 5), -1, -1);
    EDGES.refused("22: home", Edges::street, x -> x.store(2, 5, 0, 1, 1, 0, 5), -2, -2);
    EDGES.refused("23: level", Edges::street, x -> x.level(0, 9), -1, -1);
    EDGES.refused("23: store", Edges::street, x -> x.level(1, 1), -2, -2);
    EDGES.refused("24: n", Edges::street, x -> x.fill(0, 49, 0), BEYOND - 1, -1);
    EDGES.refused("24: store", Edges::street, x -> x.fill(1, 3, 0), BEYOND - 2, -2);
    EDGES.refused("24: no way", Edges::street, x -> x.fill(0, 1, 8), BEYOND - 6, -6);
    EDGES.refused("12: no way", EdgesRefusedTest::streetWithoutWay, PlugHours::whole, BEYOND - 6, -6);
    EDGES.refused("12: six jobs", EdgesRefusedTest::crowdedStreet, PlugHours::whole, BEYOND - 5, -5);
  }

  /** The same when there is no room. */
  private static void nothingChangesWhenFull() {
    EDGES.refused("5: the fifth", EdgesRefusedTest::full, x -> x.home(5), -5, -5);
    EDGES.refused("8: the 17th", EdgesRefusedTest::full, x -> x.job(0, 1, 1, 1, 7, 0, 0, 0), -5, -5);
    EDGES.refused("22: the seventh", EdgesRefusedTest::full, x -> x.store(0, 5, 0, 1, 1, 0, 5), -5, -5);
    EDGES.refused("12: too many", EdgesRefusedTest::full, PlugHours::whole, BEYOND - 5, -5);
  }

  /** The same for calls whose answer is NONE. */
  private static void noneChangesNothing() {
    EDGES.refused("14: more than 300", EdgesRefusedTest::longTape, x -> x.feed(1, 2, 3, 4, 5), -1, 0);
    EDGES.refused("15: more than it has", Edges::street, x -> x.end(7), -1, 0);
    EDGES.refused("15: below 0", Edges::street, x -> x.end(-1), -1, 0);
    EDGES.refused("10: may asks only", Edges::street, x -> x.may(3, 2), 1, 0);
  }

  private static PlugHours streetWithoutWay() {
    PlugHours x = Edges.street();
    x.job(0, 0, 0, 1, 0, 0, 0, 0);
    return x;
  }

  private static PlugHours crowdedStreet() {
    PlugHours x = Edges.street();
    for (int i = 0; i < 3; i++) x.job(0, 2, 5, 1, 0, 0, 0, 0);
    return x;
  }

  private static PlugHours longTape() {
    PlugHours x = Edges.street();
    for (int i = 0; i < 13; i++) x.feed(0, 0, 0, 0, 0);
    x.feed(0, 0, 0, 0, 0);
    return x;
  }

  /** Promise 26: what is counted, at first and full; "NONE for others". */
  private static void counts() {
    PlugHours x = full();
    int[] want = {1, 4, 16, 0, 0, 6, 0, 15, 0, 1};
    for (int what = 0; what < 10; what++) due("26: full, count(" + what + ")", x.count(what), want[what]);
    due("26: all PLANNED", x.each(), 0);
    due("26: OPEN", x.count(7), 0);
    due("26: PLANNED", x.count(8), 15);
    x.go(5);
    due("26: all DONE", x.count(9), 16);
    due("26: none PLANNED", x.count(8), 0);
    due("26: 400 prices", fullOfPrices().count(3), 400);
    int[] none = {-1, 10, 11, Integer.MIN_VALUE, Integer.MAX_VALUE};
    for (int what : none) due("26: there is no " + what, x.count(what), -1);
    PlugHours y = new PlugHours();
    Check.tape(y, "dear 7;".repeat(19) + "dear 7");
    due("26: bytes of the TAPE", y.count(6), 139);
    y.rules();
    due("26: RULES", y.count(4), 20);
    due("26: no bytes", y.count(6), 0);
    Check.rules(y, "dear");
    due("26: RULES after a FAULT", y.count(4), 20);
    due("26: no bytes after a FAULT", y.count(6), 0);
    for (int i = 0; i < 3; i++) y.go(48);
    y.go(23);
    due("26: the last NOW", y.count(0), 167);
  }

  /** Promise 27: calls without a code leave it, whatever they answer and whatever it is. */
  private static void statusStays() {
    leaves("at", x -> { x.at(0, 0); x.at(168, 0); x.at(0, 1001); });
    leaves("of", x -> { x.of(0, 0); x.of(9, 0); x.of(0, 9); });
    leaves("may", x -> { x.may(3, 2); x.may(3, 4); x.may(0, 2); x.may(9, 2); x.may(3, 168); });
    leaves("each", x -> x.each());
    leaves("feed", x -> { for (int i = 0; i < 16; i++) x.feed(0, 0, 0, 0, 0); });
    leaves("end", x -> { x.end(301); x.end(-1); x.end(0); });
    leaves("fault", x -> x.fault());
    leaves("load", x -> { x.load(0, 0); x.load(2, 0); x.load(0, 168); });
    leaves("cost", x -> { x.cost(0, 0); x.cost(9, 0); x.cost(3, 0); x.cost(0, 1001); });
    leaves("saved", x -> { x.saved(0); x.saved(1001); });
    leaves("filled", x -> { x.filled(0, 0); x.filled(0, 2); x.filled(48, 0); });
    leaves("count", x -> { x.count(0); x.count(10); });
    leaves("status", x -> x.status());
  }

  private static void leaves(String name, Consumer<PlugHours> calls) {
    PlugHours x = Edges.street();
    x.cable(2500);
    calls.accept(x);
    due("27: " + name + " leaves 0", x.status(), 0);
    x.put(9, 0);
    calls.accept(x);
    due("27: " + name + " leaves -2", x.status(), -2);
  }

  /** Promise 27: "0 if it was not, or ahead of any", after each call that can be REFUSED. */
  private static void statusIsZero() {
    due("27: ahead of any", new PlugHours().status(), 0);
    clears("price", x -> x.price(0, 0, 0));
    clears("plain", x -> x.plain(-1000));
    clears("home", x -> x.home(0));
    clears("base", x -> x.base(0, 0, 0));
    clears("cable", x -> x.cable(0));
    clears("job", x -> x.job(0, 0, 0, 1, 0, 0, 0, 0));
    clears("put", x -> x.put(3, 2));
    clears("whole", x -> x.whole());
    clears("rules", x -> x.rules());
    clears("go", x -> x.go(1));
    clears("store", x -> x.store(0, 1, 0, 0, 0, 0, 1));
    clears("level", x -> x.level(0, 0));
    clears("fill", x -> x.fill(0, 1, 0));
  }

  private static void clears(String name, Consumer<PlugHours> call) {
    PlugHours x = Edges.street();
    x.put(9, 0);
    due("27: ahead of " + name, x.status(), -2);
    call.accept(x);
    due("27: behind " + name, x.status(), 0);
  }

  /** "An object is used for at most 512 calls": the 512th is answered like any other. */
  private static void lastCall() {
    PlugHours x = new PlugHours();
    for (int i = 1; i <= 400; i++) x.price(i % 168, i, 0);
    for (int i = 401; i <= 511; i++) due("401 to 511", x.price(0, 0, 0), -5);
    due("the 512th", x.at(400 % 168, 0), 400);
  }

  public static void main(String[] args) {
    badNumberFirst();
    thenTheOthers();
    nothingChanges();
    nothingChangesWhenFull();
    noneChangesNothing();
    counts();
    statusStays();
    statusIsZero();
    lastCall();
    CHECK.end("EdgesRefusedTest");
  }
}
