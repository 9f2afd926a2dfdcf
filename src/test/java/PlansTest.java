/** Promises 10 to 13 and 18 to 21: when a job may begin, plans, hours that go by, loads, costs. */
public final class PlansTest {
  private static final Check CHECK = new Check();

  private static void due(String what, long got, long want) { CHECK.due(what, got, want); }

  private static void mayInWindow() {
    PlugHours x = new PlugHours();
    x.home(1000);
    x.job(0, 5, 8, 2, 100, 100, 0, 0);
    due("10: ahead of its window", x.may(0, 4), 0);
    due("10: its first hour", x.may(0, 5), 1);
    due("10: its last hour", x.may(0, 8), 1);
    due("10: behind its window", x.may(0, 9), 0);
    due("10: the first hour of all", x.may(0, 0), 0);
    due("10: the last hour of all", x.may(0, 167), 0);
    due("10: ahead of all hours", x.may(0, -1), -1);
    due("10: beyond all hours", x.may(0, 168), -1);
    due("10: the farthest", x.may(0, Integer.MAX_VALUE), -1);
    due("10: the farthest below", x.may(0, Integer.MIN_VALUE), -1);
    due("10: no such job", x.may(1, 5), -1);
    due("10: below all jobs", x.may(-1, 5), -1);
    x.go(6);
    due("10: ahead of NOW", x.may(0, 5), 0);
    due("10: NOW", x.may(0, 6), 1);
    due("10: asks only", x.of(0, 4), 0);
    x.job(0, 164, 167, 3, 0, 0, 0, 0);
    due("10: ends in 167", x.may(1, 165), 1);
    due("10: would go beyond 167", x.may(1, 166), 0);
  }

  private static void mayByFuseAndCable() {
    PlugHours x = new PlugHours();
    x.home(1000);
    x.home(1000);
    x.base(0, 1, 400);
    x.job(0, 0, 23, 2, 600, 600, 0, 0);
    x.job(0, 0, 23, 1, 401, 0, 0, 0);
    x.job(1, 0, 23, 1, 500, 0, 0, 0);
    due("10: just as much as the fuse bears", x.may(0, 0), 1);
    due("10: one watt less of fuse", x.base(0, 1, 401), 0);
    due("10: too much in its second hour", x.may(0, 0), 0);
    due("10: too much in its first", x.may(0, 1), 0);
    due("10: elsewhere", x.may(0, 2), 1);
    due("11: put", x.put(0, 2), 0);
    due("10: as if it were OPEN", x.may(0, 3), 1);
    due("10: the other one's watts", x.may(1, 3), 0);
    due("10: behind it", x.may(1, 4), 1);
    due("10: another home has its own fuse", x.may(2, 3), 1);
    x.cable(1100);
    due("10: the cable bears that", x.may(2, 3), 1);
    x.cable(1099);
    due("10: the cable does not", x.may(2, 3), 0);
    due("10: where there is only that base, it does", x.may(2, 1), 1);
    x.base(1, 5, 600);
    x.base(0, 5, 1);
    due("10: bases of all homes", x.may(2, 5), 0);
    x.cable(1101);
    due("10: bases of all homes, borne by the cable but not by the fuse", x.may(2, 5), 0);
    x.base(1, 5, 500);
    due("10: borne by both", x.may(2, 5), 1);
    x.job(0, 6, 6, 1, 0, 0, 0, 0);
    x.base(0, 6, 1001);
    due("10: 0 watts, but the base is above the fuse", x.may(3, 6), 0);
    due("10: an hour of others above the fuse does not matter", x.may(1, 7), 1);
    x.base(0, 2, 1000);
    due("10: its own watts count once", x.may(0, 2), 0);
    due("10: a plan stays when it could no more begin", x.of(0, 5), 2);
    x.go(3);
    due("10: DONE", x.may(0, 4), -1);
    due("10: DONE ones are drawn", x.may(1, 3), 0);
  }

  private static void put() {
    PlugHours x = new PlugHours();
    x.home(1000);
    x.job(0, 0, 3, 1, 600, 0, 0, 0);
    x.job(0, 0, 3, 1, 600, 0, 0, 0);
    due("11: no such job", x.put(2, 0), -2);
    due("11: status", x.status(), -2);
    due("11: below all jobs", x.put(-1, 0), -2);
    due("11: outside its window", x.put(0, 4), -6);
    due("11: no hour", x.put(0, -1), -6);
    due("11: no hour", x.put(0, 168), -6);
    due("11: status", x.status(), -6);
    due("11: put", x.put(0, 1), 0);
    due("11: status", x.status(), 0);
    due("11: the fuse", x.put(1, 1), -6);
    due("11: OPEN still", x.of(1, 5), -1);
    due("11: elsewhere", x.put(0, 2), 0);
    due("11: moved away", x.load(0, 1), 0);
    due("11: moved there", x.load(0, 2), 600);
    due("11: to the same hour", x.put(0, 2), 0);
    due("11: drawn once", x.load(0, 2), 600);
    due("11: the hour it left", x.put(1, 1), 0);
    due("11: not there: it stays", x.put(1, 2), -6);
    due("11: it stays", x.of(1, 5), 1);
    x.go(2);
    due("11: DONE", x.put(1, 3), -3);
    due("11: DONE, and no such hour", x.put(1, 500), -3);
    due("11: ahead of NOW", x.put(0, 1), -6);
  }

  private static void whole() {
    PlugHours x = new PlugHours();
    x.home(1000);
    x.price(1, 10, 0);
    x.price(2, 20, 0);
    x.price(3, 10, 9);
    x.job(0, 0, 3, 1, 600, 0, 0, 0);
    x.job(0, 0, 3, 1, 700, 0, 0, 0);
    due("12: the dearer job takes the cheap hour", x.whole(), 600 * 20 + 700 * 10);
    due("12: first", x.of(0, 5), 2);
    due("12: second", x.of(1, 5), 1);
    due("12: PLANNED", x.count(8), 2);
    due("12: what is planned opens first", x.whole(), 19000);
    due("13: job by job the first takes it", x.each(), 0);
    due("13: first", x.of(0, 5), 1);
    due("13: second", x.of(1, 5), 2);
    PlugHours y = new PlugHours();
    y.home(1000);
    y.job(0, 0, 3, 1, 600, 0, 0, 0);
    y.job(0, 0, 3, 1, 600, 0, 0, 0);
    y.job(0, 1, 3, 1, 300, 0, 0, 0);
    due("12: of those alike", y.whole(), 150000);
    due("12: the first row", y.of(0, 5), 0);
    due("12: the first row", y.of(1, 5), 1);
    due("12: the first row", y.of(2, 5), 1);
    y.job(0, 0, 0, 1, 500, 0, 0, 0);
    due("12: an earlier job gives way", y.whole(), 200000);
    due("12: it gives way", y.of(0, 5), 1);
    due("12: it gives way", y.of(1, 5), 2);
    y.job(0, 0, 0, 1, 501, 0, 0, 0);
    due("12: there is none", y.whole(), PlugHours.BEYOND - 6);
    due("12: status", y.status(), -6);
    due("12: all stays", y.of(0, 5), 1);
    due("12: all stays", y.of(3, 5), 0);
    due("12: OPEN stays so", y.of(4, 4), 0);
    due("12: loads stay", y.load(0, 1), 900);
    y.job(0, 9, 9, 1, 0, 0, 0, 0);
    due("12: six jobs", y.whole(), PlugHours.BEYOND - 5);
    due("12: status", y.status(), -5);
    y.go(1);
    due("12: five are not DONE, but one's hour went by", y.whole(), PlugHours.BEYOND - 6);
    due("12: DONE ones stay", y.of(3, 4), 2);
  }

  private static void wholeLowPrices() {
    PlugHours x = new PlugHours();
    x.home(20000);
    x.plain(-1000);
    x.job(0, 160, 167, 4, 5000, 5000, 5000, 5000);
    x.job(0, 0, 23, 4, 5000, 5000, 5000, 5000);
    x.price(3, 10000, 0);
    due("12: below 0", x.whole(), -2L * 4 * 5000 * 1000);
    due("12: first hour that is alike", x.of(1, 5), 4);
    due("12: before the end", x.of(0, 5), 160);
    x.plain(10000);
    due("12: dear", x.whole(), 2L * 4 * 5000 * 10000);
    due("12: costs by now", x.cost(1, 0), 4L * 5000 * 10000);
  }

  private static void each() {
    PlugHours x = new PlugHours();
    x.home(500);
    for (int j = 0; j < 16; j++) x.job(0, 0, 9, 1, 500, 0, 0, 0);
    due("13: ten hours, sixteen jobs", x.each(), 6);
    for (int j = 0; j < 16; j++) due("13: in order", x.of(j, 5), j < 10 ? j : -1);
    due("13: OPEN", x.count(7), 6);
    x.go(3);
    x.price(9, 1, 2);
    x.price(8, 1, 3);
    x.price(7, 1, 4);
    due("13: DONE ones stay", x.each(), 6);
    due("13: the first of the cheap", x.of(3, 5), 8);
    due("13: the other one", x.of(4, 5), 9);
    due("13: not yet known", x.of(5, 5), 3);
    due("13: OPEN now", x.of(10, 5), -1);
    due("13: no refusal", x.status(), 0);
    x.home(-1);
    x.each();
    due("13: status is not its matter", x.status(), -1);
  }

  private static void go() {
    PlugHours x = new PlugHours();
    x.home(500);
    x.job(0, 0, 9, 2, 100, 200, 0, 0);
    x.job(0, 0, 9, 1, 100, 0, 0, 0);
    x.put(0, 2);
    x.put(1, 3);
    due("18: none", x.go(0), -1);
    due("18: back", x.go(-1), -1);
    due("18: 49", x.go(49), -1);
    due("18: status", x.status(), -1);
    due("18: NOW stays", x.count(0), 0);
    due("18: one", x.go(1), 1);
    due("18: one", x.go(1), 2);
    due("18: planned for NOW", x.of(0, 4), 1);
    due("18: one", x.go(1), 3);
    due("18: begun", x.of(0, 4), 2);
    due("18: not yet", x.of(1, 4), 1);
    due("18: 48", x.go(48), 51);
    due("18: DONE", x.count(9), 2);
    due("18: on", x.go(48), 99);
    due("18: on", x.go(48), 147);
    due("18: beyond", x.go(21), -1);
    due("18: to the last", x.go(20), 167);
    due("18: no more", x.go(1), -1);
    due("18: stays", x.count(0), 167);
    due("19: of what is DONE", x.load(0, 2), 100);
    due("19: of both", x.load(0, 3), 300);
    due("19: no such home", x.load(1, 0), -1);
    due("19: below all homes", x.load(-1, 0), -1);
    due("19: hour -1", x.load(0, -1), -1);
    due("19: hour 168", x.load(0, 168), -1);
    due("19: hour 167", x.load(0, 167), 0);
  }

  private static void costs() {
    PlugHours x = new PlugHours();
    x.home(5000);
    x.job(0, 166, 167, 2, 10, 20, 0, 0);
    x.job(0, 140, 160, 1, 7, 0, 0, 0);
    x.job(0, 167, 167, 1, 3, 0, 0, 0);
    x.job(0, 165, 167, 3, 1, 10, 100, 0);
    due("20: OPEN", x.cost(0, 0), 0);
    due("20: no such job", x.cost(4, 0), 0);
    due("20: below all jobs", x.cost(-1, 0), 0);
    x.price(166, 2, 0);
    x.price(167, 3, 0);
    x.price(167, 5, 1000);
    due("11: put", x.put(0, 166), 0);
    due("20: PLANNED", x.cost(0, 0), 10 * 2 + 20 * 3);
    due("20: as known later", x.cost(0, 1000), 10 * 2 + 20 * 5);
    due("20: known -1", x.cost(0, -1), 0);
    due("20: known 1001", x.cost(0, 1001), 0);
    x.put(1, 150);
    due("21: none is DONE", x.saved(0), 0);
    x.go(48);
    x.go(48);
    x.go(48);
    x.price(140, 200, 500);
    due("21: known 499", x.saved(499), 0);
    x.go(7);
    due("21: still none by then", x.saved(499), 0);
    due("21: by the plain day's price", x.saved(500), 7 * 100);
    x.price(150, 50, 1);
    due("21: by its own price", x.saved(1), 7 * 50);
    due("21: known -1", x.saved(-1), 0);
    due("21: known 1001", x.saved(1001), 0);
    x.go(16);
    due("20: DONE", x.cost(0, 0), 80);
    due("21: a job on its plain day saves nothing", x.saved(1), 350);
    due("21: at 1000", x.saved(1000), 7 * 150);
    due("21: OPEN jobs save nothing", x.of(3, 4), 0);
  }

  /** Only a job whose window goes to the end has a plain day beyond 167, and it can't begin then: it stays OPEN. */
  private static void endOfHours() {
    PlugHours x = new PlugHours();
    x.home(5000);
    x.job(0, 167, 167, 2, 1, 1, 0, 0);
    due("10: can't end", x.may(0, 167), 0);
    due("12: no way", x.whole(), PlugHours.BEYOND - 6);
    due("13: OPEN", x.each(), 1);
  }

  public static void main(String[] args) {
    mayInWindow();
    mayByFuseAndCable();
    put();
    whole();
    wholeLowPrices();
    each();
    go();
    costs();
    endOfHours();
    CHECK.end("PlansTest");
  }
}
