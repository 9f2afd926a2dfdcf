/** Boundary cases of term II's "A JOB MAY BEGIN", and of promises 10 and 11. */
public final class EdgesBeginTest {
  private static final Check CHECK = new Check();

  private static void due(String what, long got, long want) { CHECK.due(what, got, want); }

  /** A job of n hours, each of which needs 0 watts, in a home of no watts. */
  private static PlugHours still(int first, int last, int n) {
    PlugHours x = Edges.home(0);
    x.job(0, first, last, n, 0, 0, 0, 0);
    return x;
  }

  /** For hours from first on, one sign each: 1 may, 0 may not. */
  private static void may(String what, PlugHours x, int job, int first, String want) {
    for (int i = 0; i < want.length(); i++) {
      due(what + ": may(" + job + ", " + (first + i) + ")", x.may(job, first + i), want.charAt(i) - '0');
    }
  }

  /** Term II: "in an HOUR h, not ahead of NOW". */
  private static void now() {
    PlugHours x = still(2, 6, 1);
    may("II, 10: NOW 0", x, 0, 0, "0011111000");
    Edges.goTo(x, 2);
    may("II, 10: NOW 2", x, 0, 0, "0011111000");
    Edges.goTo(x, 3);
    may("II, 10: NOW 3", x, 0, 0, "0001111000");
    due("II, 11: ahead of NOW", x.put(0, 2), -6);
    due("II, 11: NOW", x.put(0, 3), 0);
    Edges.goTo(x, 6);
    for (int hour = 0; hour < 168; hour++) due("10: DONE", x.may(0, hour), -1);
    PlugHours y = still(2, 6, 1);
    Edges.goTo(y, 6);
    may("II, 10: NOW is the last of the window", y, 0, 0, "0000001000");
    Edges.goTo(y, 7);
    may("II, 10: NOW is behind the window", y, 0, 0, "0000000000");
    due("II, 13: it stays OPEN", y.each(), 1);
  }

  /** Term II: "it is in its window". */
  private static void window() {
    may("II, 10: one hour", still(3, 3, 1), 0, 0, "00010000");
    may("II, 10: hour 0", still(0, 0, 4), 0, 0, "10000000");
    PlugHours x = still(10, 33, 2);
    due("II, 10: ahead of the first", x.may(0, 9), 0);
    due("II, 10: the first", x.may(0, 10), 1);
    due("II, 10: the last", x.may(0, 33), 1);
    due("II, 10: behind the last", x.may(0, 34), 0);
    due("II, 11: ahead of the first", x.put(0, 9), -6);
    due("II, 11: behind the last", x.put(0, 34), -6);
    due("II, 11: the last, though its second hour is behind the window", x.put(0, 33), 0);
  }

  /** Term II: "h and its HOURS do not go beyond 167". */
  private static void endOfHours() {
    for (int n = 1; n <= 4; n++) {
      PlugHours x = still(160, 167, n);
      for (int hour = 160; hour <= 167; hour++) {
        due("II, 10: " + n + " hours from " + hour, x.may(0, hour), hour + n <= 168 ? 1 : 0);
        due("II, 11: " + n + " hours from " + hour, x.put(0, hour), hour + n <= 168 ? 0 : -6);
      }
      due("II, 11: its last way stays", x.of(0, 5), 168 - n);
    }
    PlugHours x = still(167, 167, 2);
    due("II, 12: no way", x.whole(), PlugHours.BEYOND - 6);
    due("II, 13: OPEN", x.each(), 1);
  }

  /** Promise 10: "NONE (DONE, too)": no such JOB, no HOUR, DONE; promise 11: "-2; -3 it is DONE; -6". */
  private static void without() {
    PlugHours x = still(0, 5, 1);
    int[] none = {1, 15, 16, -1, Integer.MIN_VALUE, Integer.MAX_VALUE};
    for (int job : none) {
      due("10: there is no job " + job, x.may(job, 0), -1);
      due("11: there is no job " + job, x.put(job, 0), -2);
      due("11: its status", x.status(), -2);
    }
    int[] wrong = {-1, 168, Integer.MIN_VALUE, Integer.MAX_VALUE, Integer.MAX_VALUE - 3};
    for (int hour : wrong) {
      due("10: there is no hour " + hour, x.may(0, hour), -1);
      due("11: it can't begin in " + hour, x.put(0, hour), -6);
      due("11: its status", x.status(), -6);
    }
    due("11: OPEN still", x.of(0, 4), 0);
    due("11: put", x.put(0, 0), 0);
    due("11: its status", x.status(), 0);
    x.go(1);
    due("10: DONE", x.may(0, 2), -1);
    due("11: DONE", x.put(0, 2), -3);
    due("11: its status", x.status(), -3);
    due("11: it stays DONE", x.of(0, 5), 0);
  }

  /** Promise 10: "as if it were OPEN"; it asks, and changes nothing. */
  private static void asIfOpen() {
    PlugHours x = Edges.home(500);
    x.job(0, 0, 5, 2, 500, 500, 0, 0);
    x.put(0, 2);
    may("10: its own watts are not in its way", x, 0, 0, "1111110");
    due("10: it stays", x.of(0, 5), 2);
    due("10: PLANNED", x.of(0, 4), 1);
    due("19: and drawn", x.load(0, 2), 500);
    due("19: once", x.load(0, 3), 500);
    due("11: moved by one hour", x.put(0, 3), 0);
    due("19: gone there", x.load(0, 2), 0);
    due("19: once", x.load(0, 3), 500);
    due("19: new there", x.load(0, 4), 500);
    x.base(0, 3, 1);
    may("10: but the base is", x, 0, 0, "1100110");
    due("11: not where it is", x.put(0, 3), -6);
    due("11: and there it stays", x.of(0, 5), 3);
  }

  /** Term II: "none of its HOURS lies in a "quiet" of its HOME": both its ends, each hour of the job. */
  private static void quiet() {
    PlugHours x = Edges.home(0);
    x.home(0);
    for (int n = 1; n <= 4; n++) x.job(0, 0, 12, n, 0, 0, 0, 0);
    x.job(1, 0, 12, 4, 0, 0, 0, 0);
    Check.rules(x, "quiet 0 from 6 to 8");
    may("II, 10: one hour", x, 0, 0, "1111110001111");
    may("II, 10: two hours", x, 1, 0, "1111100001111");
    may("II, 10: three hours", x, 2, 0, "1111000001111");
    may("II, 10: four hours", x, 3, 0, "1110000001111");
    may("II, 10: of another home", x, 4, 0, "1111111111111");
    Check.rules(x, "quiet 0 from 6 to 6");
    may("II, 10: one quiet hour", x, 0, 0, "1111110111111");
    may("II, 10: one quiet hour in four", x, 3, 0, "1110000111111");
    Check.rules(x, "quiet 0 from 2 to 3;quiet 0 from 7 to 7;quiet 1 from 0 to 1");
    may("II, 10: in any of two", x, 1, 0, "1000110011111");
    may("II, 10: the other home's", x, 4, 0, "0011111111111");
  }

  /** Term II: "the first may be behind the second: over midnight". */
  private static void midnight() {
    PlugHours x = Edges.home(0);
    x.job(0, 20, 43, 1, 0, 0, 0, 0);
    Check.rules(x, "quiet 0 from 22 to 2");
    may("II, 10: 22 to 2", x, 0, 20, "110000011111111111111111");
    Check.rules(x, "quiet 0 from 23 to 0");
    may("II, 10: 23 to 0", x, 0, 20, "111001111111111111111111");
    Check.rules(x, "quiet 0 from 2 to 22");
    may("II, 10: not over midnight", x, 0, 20, "000111000000000000000000");
    Check.rules(x, "quiet 0 from 12 to 11");
    may("II, 10: 12 to 11 is all day", x, 0, 20, "000000000000000000000000");
    Check.rules(x, "quiet 0 from 0 to 23");
    may("II, 10: 0 to 23 is all day", x, 0, 20, "000000000000000000000000");
    Check.rules(x, "quiet 0 from 0 to 0");
    may("II, 10: the hour behind midnight", x, 0, 20, "111101111111111111111111");
    Check.rules(x, "quiet 0 from 23 to 23");
    may("II, 10: the hour ahead of it", x, 0, 20, "111011111111111111111111");
    PlugHours y = still(160, 167, 1);
    Check.rules(y, "quiet 0 from 22 to 22");
    may("II, 10: on the last day", y, 0, 160, "11111101");
  }

  /** Term II: no HOUR has a PRICE "above the least NUMBER of "dear" RULES (0 watts in it, too)". */
  private static void dear() {
    PlugHours x = Edges.home(10);
    x.job(0, 0, 6, 3, 10, 0, 10, 0);
    x.price(4, 101, 0);
    Check.rules(x, "dear 100");
    may("II, 10: 100 is not above 100, 101 is", x, 0, 0, "1100011");
    Check.rules(x, "dear 101");
    may("II, 10: none is above 101", x, 0, 0, "1111111");
    Check.rules(x, "dear 99");
    may("II, 10: all are above 99", x, 0, 0, "0000000");
    Check.rules(x, "dear 9999;dear 100;dear 101");
    may("II, 10: the least of three", x, 0, 0, "1100011");
    Check.rules(x, "dear 0");
    x.plain(0);
    may("II, 10: 0 is not above 0", x, 0, 0, "1100011");
    x.plain(1);
    may("II, 10: 1 is", x, 0, 0, "0000000");
    x.plain(-1000);
    x.price(4, 0, 0);
    may("II, 10: below 0", x, 0, 0, "1111111");
    x.plain(10000);
    Check.rules(x, "dear 10000");
    may("II, 10: 10,000 is not above 10,000", x, 0, 0, "1111111");
    Check.rules(x, "dear 9999");
    may("II, 10: it is above 9999", x, 0, 0, "0000000");
    Check.rules(x, "");
    may("II, 10: without such rules nothing is", x, 0, 0, "1111111");
    Check.rules(x, "quiet 1 from 0 to 23");
    may("II, 10: with others, too", x, 0, 0, "1111111");
  }

  /** Term II: the PRICE is taken "as known in NOW". */
  private static void dearAsKnown() {
    PlugHours x = still(0, 9, 1);
    Check.rules(x, "dear 100");
    x.price(5, 101, 2);
    x.price(6, 101, 3);
    x.price(6, 100, 4);
    may("II, 10: NOW 0", x, 0, 0, "1111111111");
    x.go(2);
    may("II, 10: NOW 2", x, 0, 0, "0011101111");
    x.go(1);
    may("II, 10: NOW 3", x, 0, 0, "0001100111");
    x.go(1);
    may("II, 10: NOW 4", x, 0, 0, "0000101111");
    x.price(7, 101, 4);
    x.price(8, 101, 5);
    may("II, 10: told in NOW", x, 0, 0, "0000101011");
    due("II, 11: too dear", x.put(0, 7), -6);
    due("II, 11: not yet", x.put(0, 8), 0);
  }

  /** Term II: for a "before" b: "b does not begin ahead of a's end", whichever of them is asked for. */
  private static void before() {
    PlugHours x = Edges.home(0);
    x.job(0, 0, 9, 3, 0, 0, 0, 0);
    x.job(0, 0, 9, 2, 0, 0, 0, 0);
    x.job(0, 0, 9, 1, 0, 0, 0, 0);
    Check.rules(x, "job 0 before 1");
    may("II, 10: the other one is OPEN", x, 0, 0, "1111111111");
    may("II, 10: the other one is OPEN", x, 1, 0, "1111111111");
    x.put(1, 5);
    may("II, 10: a's end is where b begins", x, 0, 0, "1110000000");
    may("II, 10: of no such rule", x, 2, 0, "1111111111");
    x.put(0, 2);
    may("II, 10: b begins where a ends", x, 1, 0, "0000011111");
    may("II, 10: a, as if it were OPEN", x, 0, 0, "1110000000");
    x.go(2);
    due("II: a is PLANNED still", x.of(0, 4), 1);
    x.go(1);
    due("II: a is DONE", x.of(0, 4), 2);
    may("II, 10: of a DONE one", x, 1, 0, "0000011111");
    Check.rules(x, "job 1 before 0");
    may("II, 10: ahead of a DONE one there is no way", x, 1, 0, "0000000000");
    Check.rules(x, "job 0 before 1;job 1 before 2");
    may("II, 10: each of two rules", x, 1, 0, "0000011111");
    x.put(2, 8);
    may("II, 10: each of two rules", x, 1, 0, "0000011000");
  }

  /** Term II: rules of JOBS that are not there yet do nothing until they are PLANNED. */
  private static void beforeNone() {
    PlugHours x = still(0, 5, 1);
    Check.rules(x, "job 0 before 15;job 1 before 0");
    may("II, 10: there are no such jobs", x, 0, 0, "111111");
    x.job(0, 0, 5, 1, 0, 0, 0, 0);
    may("II, 10: it is OPEN", x, 0, 0, "111111");
    x.put(1, 2);
    may("II, 10: it is PLANNED", x, 0, 0, "000111");
    for (int job = 2; job <= 15; job++) x.job(0, 0, 5, 1, 0, 0, 0, 0);
    x.put(15, 4);
    may("II, 10: job 15, too", x, 0, 0, "000100");
    may("II, 10: and it must not be ahead", x, 15, 0, "111111");
    x.put(0, 3);
    may("II, 10: and it must not be ahead", x, 15, 0, "000011");
  }

  /** Term II: each of two ahead of the other. */
  private static void beforeBoth() {
    PlugHours x = Edges.home(0);
    x.job(0, 0, 3, 1, 0, 0, 0, 0);
    x.job(0, 0, 3, 1, 0, 0, 0, 0);
    Check.rules(x, "job 0 before 1;job 1 before 0");
    due("II, 12: no way for both", x.whole(), PlugHours.BEYOND - 6);
    due("II, 13: one of them", x.each(), 1);
    due("II, 13: the first", x.of(0, 5), 0);
    may("II, 10: the other one never", x, 1, 0, "0000");
  }

  /** Term II: BASE, other JOBS "that are PLANNED or DONE, and it" are not "above FUSE". */
  private static void fuse() {
    PlugHours x = Edges.home(1000);
    x.home(20000);
    x.base(0, 2, 300);
    x.job(0, 0, 5, 1, 600, 0, 0, 0);
    x.job(0, 0, 5, 2, 400, 100, 0, 0);
    x.job(0, 0, 5, 1, 401, 0, 0, 0);
    x.job(1, 0, 5, 1, 5000, 0, 0, 0);
    x.put(3, 3);
    may("II, 10: OPEN ones need nothing, other homes have their own", x, 0, 0, "111111");
    x.put(0, 3);
    may("II, 10: 1000 in hour 3 is not above", x, 1, 0, "111111");
    may("II, 10: 1001 is", x, 2, 0, "111011");
    x.base(0, 3, 1);
    may("II, 10: with a base of 1 it is above", x, 1, 0, "111011");
    x.base(0, 3, 300);
    may("II, 10: 600 and 300 and its second hour's 100", x, 1, 0, "111011");
    x.base(0, 3, 301);
    may("II, 10: 600 and 301 and its second hour's 100", x, 1, 0, "110011");
    may("II, 10: 300 and 600 in hour 2", x, 0, 0, "111111");
    x.base(0, 2, 401);
    may("II, 10: 401 and 600 in hour 2", x, 0, 0, "110111");
    x.go(4);
    due("II: DONE", x.of(0, 4), 2);
    due("II, 19: DONE ones are drawn", x.load(0, 3), 901);
    PlugHours y = Edges.home(1000);
    y.job(0, 0, 5, 3, 1, 1, 600, 0);
    y.job(0, 1, 5, 1, 400, 0, 0, 0);
    y.job(0, 1, 5, 1, 401, 0, 0, 0);
    y.put(0, 0);
    y.go(1);
    due("II: DONE, though its hours go on", y.of(0, 4), 2);
    may("II, 10: 400 beside a DONE one", y, 1, 1, "11111");
    may("II, 10: 401 beside a DONE one", y, 2, 1, "10111");
  }

  /** Term II: FUSE is looked at in its own HOURS, those of 0 watts too. */
  private static void fuseOfOwnHours() {
    PlugHours x = Edges.home(1000);
    x.base(0, 3, 1001);
    x.job(0, 0, 6, 2, 5, 0, 0, 0);
    may("II, 10: the base alone is above", x, 0, 0, "1100111");
    x.base(0, 3, 1000);
    may("II, 10: the base alone is not above, but with it", x, 0, 0, "1110111");
    x.base(0, 3, 995);
    may("II, 10: just not above", x, 0, 0, "1111111");
    x.base(0, 3, 996);
    may("II, 10: by one", x, 0, 0, "1110111");
    x.job(0, 166, 167, 1, 1000, 0, 0, 0);
    x.base(0, 23, 1);
    may("II, 10: on the last day by the hour of the day", x, 1, 165, "010");
  }

  /** Term II: "all HOMES' likewise not above CABLE". */
  private static void cable() {
    PlugHours x = Edges.home(20000);
    x.home(20000);
    x.home(20000);
    x.base(0, 1, 100);
    x.base(1, 1, 20);
    x.base(2, 1, 3);
    x.job(0, 0, 3, 1, 500, 0, 0, 0);
    x.job(1, 0, 3, 1, 70, 0, 0, 0);
    x.put(0, 1);
    x.cable(693);
    may("II, 10: bases, the other home's job, and it", x, 1, 0, "1111");
    x.cable(692);
    may("II, 10: one less", x, 1, 0, "1011");
    x.cable(69);
    may("II, 10: too little for it alone", x, 1, 0, "0000");
    x.cable(70);
    may("II, 10: enough for it alone", x, 1, 0, "1011");
    due("II: a plan stays when the cable bears it no more", x.of(0, 5), 1);
    x.cable(0);
    x.job(2, 0, 3, 1, 0, 0, 0, 0);
    may("II, 10: a cable of 0 bears 0 watts", x, 2, 0, "1011");
    x.go(2);
    x.cable(500);
    due("II: DONE", x.of(0, 4), 2);
    PlugHours y = Edges.home(20000);
    y.home(20000);
    y.job(0, 0, 3, 3, 1, 1, 900, 0);
    y.job(1, 1, 3, 1, 100, 0, 0, 0);
    y.put(0, 0);
    y.go(1);
    y.cable(1000);
    may("II, 10: beside a DONE one", y, 1, 1, "111");
    y.cable(999);
    may("II, 10: one less", y, 1, 1, "101");
  }

  /** Term II: a BASE told anew counts in the old one's stead, for FUSE and for CABLE. */
  private static void baseAnew() {
    PlugHours x = Edges.home(1000);
    x.home(1000);
    x.job(1, 0, 3, 1, 400, 0, 0, 0);
    x.cable(1000);
    x.base(0, 1, 700);
    x.base(1, 2, 700);
    may("II, 10: CABLE in hour 1, FUSE in hour 2", x, 0, 0, "1001");
    x.base(0, 1, 601);
    x.base(1, 2, 601);
    may("II, 10: by one still", x, 0, 0, "1001");
    x.base(0, 1, 600);
    x.base(1, 2, 600);
    may("II, 10: not above any more", x, 0, 0, "1111");
    x.base(1, 1, 1);
    may("II, 10: one watt in each home", x, 0, 0, "1011");
    x.base(0, 1, 599);
    may("II, 10: one less in the other", x, 0, 0, "1111");
  }

  /** Terms I and II: as much as four fuses bear is as much as the cable bears at first. */
  private static void allThatCanBe() {
    PlugHours x = new PlugHours();
    for (int h = 0; h < 4; h++) x.home(20000);
    for (int h = 0; h < 4; h++) x.base(h, 0, 5000);
    for (int j = 0; j < 12; j++) x.job(j / 3, 0, 0, 1, 5000, 0, 0, 0);
    for (int j = 0; j < 12; j++) due("II, 11: job " + j, x.put(j, 0), 0);
    for (int h = 0; h < 4; h++) due("II, 19: home " + h, x.load(h, 0), 20000);
    x.job(3, 0, 0, 1, 1, 0, 0, 0);
    due("II, 10: one watt more", x.may(12, 0), 0);
    x.cable(79999);
    due("II, 10: the cable bears one less", x.may(11, 0), 0);
    x.cable(80000);
    due("II, 10: or just that", x.may(11, 0), 1);
  }

  public static void main(String[] args) {
    now();
    window();
    endOfHours();
    without();
    asIfOpen();
    quiet();
    midnight();
    dear();
    dearAsKnown();
    before();
    beforeNone();
    beforeBoth();
    fuse();
    fuseOfOwnHours();
    cable();
    baseAnew();
    allThatCanBe();
    CHECK.end("EdgesBeginTest");
  }
}
