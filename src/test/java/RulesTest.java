/** Promises 14 to 17: the tape, rules and their faults; and what rules do to promise 10. */
public final class RulesTest {
  private static final Check CHECK = new Check();

  private static void due(String what, long got, long want) { CHECK.due(what, got, want); }

  private static void tape() {
    PlugHours x = new PlugHours();
    for (int i = 1; i <= 15; i++) due("14: feed " + i, x.feed(0x20202020, 0x20202020, 0x20202020, 0x20202020, 0x20202020), 20 * i);
    due("14: more than 300", x.feed(0, 0, 0, 0, 0), -1);
    due("14: 300 stay", x.count(6), 300);
    due("15: below 0", x.end(-1), -1);
    due("15: not so many", x.end(301), -1);
    due("15: all", x.end(300), 300);
    due("15: fewer", x.end(281), 281);
    due("14: 281 and 20", x.feed(0, 0, 0, 0, 0), -1);
    due("15: fewer", x.end(280), 280);
    due("14: 280 and 20", x.feed(0x20202020, 0x20202020, 0x20202020, 0x20202020, 0x20202020), 300);
    x.home(-1);
    due("14: too many", x.feed(0, 0, 0, 0, 0), -1);
    due("14: status is not its matter", x.status(), -1);
    due("15: too many", x.end(999), -1);
    due("16: blanks alone", x.rules(), 0);
    due("16: status", x.status(), 0);
    due("16: empty then", x.count(6), 0);
    due("15: none", x.end(0), 0);
    due("15: one", x.end(1), -1);
    due("16: no bytes at all", x.rules(), 0);
    due("17: none", x.fault(), -1);
    due("14: highest byte first", x.feed(0x64656172, 0x20373b64, 0x65617220, 0x383b6465, 0x61722039), 20);
    due("16: dear 7;dear 8;dear 9", x.rules(), 3);
    due("26: RULES", x.count(4), 3);
    x.feed(0x64656172, 0x20370000, 0, 0, 0);
    x.end(6);
    due("15: what is behind is gone", x.rules(), 1);
    x.feed(0x64656172, 0x20378080, 0xff202020, 0, 0);
    due("16: high bytes", x.rules(), -6);
    due("17: high bytes", x.fault(), 6);
  }

  private static void fault(String text, int place) {
    PlugHours x = new PlugHours();
    Check.rules(x, "dear 5;dear 6");
    due("16: " + text, Check.rules(x, text), -6);
    due("17: " + text, x.fault(), place);
    due("16: they stay", x.count(4), 2);
    due("16: the tape is empty", x.count(6), 0);
    due("27: status", x.status(), -6);
    due("17: asked again", x.fault(), place);
    due("16: then a good one", Check.rules(x, "dear 1"), 1);
    due("17: none", x.fault(), -1);
  }

  private static void good(String text, int rules) {
    PlugHours x = new PlugHours();
    Check.rules(x, "x");
    due("16: " + text, Check.rules(x, text), rules);
    due("17: " + text, x.fault(), -1);
    due("26: " + text, x.count(4), rules);
  }

  private static void grammar() {
    good("quiet 0 from 0 to 23", 1);
    good("quiet 3 from 23 to 0", 1);
    good("quiet3from23to0;dear10000;job0before15", 3);
    good("   dear   0   ;   job 15 before 0   ", 2);
    good("dear 00000000000000000000010000;job 00 before 01", 2);
    good("job 1 before 2;job 2 before 1", 2);
    fault(";", 0);
    fault("  ;", 2);
    fault("dear", 4);
    fault("dear  ", 6);
    fault("dear 10001", 5);
    fault("dear 99999999999999999999", 5);
    fault("dear 4294967297", 5);
    fault("dear -1", 5);
    fault("dear x", 5);
    fault("dear 7;", 7);
    fault("dear 7; ", 8);
    fault("dear 7;;dear 8", 7);
    fault("dear 7 dear 8", 7);
    fault("dear 7 8", 7);
    fault("dear 7,8", 6);
    fault("dears 7", 0);
    fault("Dear 7", 0);
    fault("dearz 7", 0);
    fault("adear 7", 0);
    fault("dear{7", 4);
    fault("dear`7", 4);
    fault("dear /7", 5);
    fault("dear :7", 5);
    fault("dear 1: 7", 6);
    fault("dea r 7", 0);
    fault("quiet 4 from 1 to 2", 6);
    fault("quiet from 1 to 2", 6);
    fault("quiet 0 to 2", 8);
    fault("quiet 0 from 24 to 2", 13);
    fault("quiet 0 from 1 from 2", 15);
    fault("quiet 0 from 1 to 24", 18);
    fault("quiet 0 from 1 to", 17);
    fault("quiet 0 from 1", 14);
    fault("job 16 before 1", 4);
    fault("job 1 after 2", 6);
    fault("job 1 before 16", 13);
    fault("job 1 before 01", 13);
    fault("job 1 before", 12);
    fault("job 3 before 3 ;", 13);
    fault("job1before2job", 11);
    fault("dear 7\t", 6);
    fault("dear\n7", 4);
    fault("dear 7.5", 6);
  }

  private static void mostRules() {
    StringBuilder s = new StringBuilder("dear 1");
    for (int i = 2; i <= 20; i++) s.append(";dear ").append(i);
    good(s.toString(), 20);
    int length = s.length();
    fault(s + ";", length + 1);
    fault(s + "; dear 1", length + 2);
    fault(s + "; x", length + 2);
    fault(s + " dear 1", length + 1);
  }

  private static void quiet() {
    PlugHours x = new PlugHours();
    x.home(1000);
    x.home(1000);
    x.job(0, 20, 43, 1, 0, 0, 0, 0);
    x.job(1, 20, 43, 1, 0, 0, 0, 0);
    x.job(0, 20, 43, 3, 0, 0, 0, 0);
    Check.rules(x, "quiet 0 from 22 to 1; quiet 0 from 5 to 5");
    for (int t = 20; t < 44; t++) {
      int day = t % 24;
      boolean still = day >= 22 || day <= 1 || day == 5;
      due("10: quiet in " + t, x.may(0, t), still ? 0 : 1);
      due("10: another home in " + t, x.may(1, t), 1);
      boolean touches = t >= 20 && t <= 25 || t >= 27 && t <= 29;
      due("10: three hours from " + t, x.may(2, t), touches ? 0 : 1);
    }
    x.put(1, 30);
    Check.rules(x, "quiet 1 from 0 to 23");
    due("16: what is PLANNED stays", x.of(1, 5), 30);
    due("10: but may not begin any more", x.may(1, 30), 0);
    due("10: the other home may now", x.may(0, 23), 1);
    due("12: no way", x.whole(), PlugHours.BEYOND - 6);
    due("12: it stays", x.of(1, 5), 30);
    due("13: OPEN", x.each(), 1);
    due("13: the quiet home's", x.of(1, 4), 0);
  }

  private static void dear() {
    PlugHours x = new PlugHours();
    x.home(1000);
    x.job(0, 0, 10, 2, 5, 0, 0, 0);
    Check.rules(x, "dear 200;dear 99;dear 150");
    due("10: PLAIN is above the least", x.may(0, 0), 0);
    x.plain(99);
    due("10: just as much", x.may(0, 0), 1);
    x.price(3, 100, 4);
    due("10: not known in NOW", x.may(0, 2), 1);
    x.price(5, 100, 0);
    due("10: in its second hour, of 0 watts", x.may(0, 4), 0);
    due("10: in its first", x.may(0, 5), 0);
    due("10: behind", x.may(0, 6), 1);
    x.price(7, 100, 2);
    due("10: not yet", x.may(0, 7), 1);
    x.go(2);
    due("10: known now", x.may(0, 7), 0);
    Check.rules(x, "dear 10000");
    x.plain(10000);
    due("10: nothing is above 10,000", x.may(0, 8), 1);
    Check.rules(x, "dear 0");
    x.plain(0);
    due("10: 0 is not above 0", x.may(0, 8), 1);
  }

  private static void before() {
    PlugHours x = new PlugHours();
    x.home(1000);
    x.job(0, 0, 10, 3, 1, 1, 1, 0);
    Check.rules(x, "job 0 before 1; job 2 before 0");
    due("10: others are not there yet", x.may(0, 0), 1);
    x.job(0, 0, 10, 2, 1, 1, 0, 0);
    x.job(0, 0, 10, 1, 1, 0, 0, 0);
    due("10: others are OPEN", x.may(0, 0), 1);
    due("11: put", x.put(1, 6), 0);
    due("10: ends just in time", x.may(0, 3), 1);
    due("10: ends too late", x.may(0, 4), 0);
    due("10: behind", x.may(0, 8), 0);
    due("11: put", x.put(2, 2), 0);
    due("10: begins at its end", x.may(0, 3), 1);
    due("10: begins too soon", x.may(0, 2), 0);
    due("10: only of two that are named", x.may(1, 2), 1);
    due("11: put", x.put(0, 3), 0);
    due("10: b may not go ahead", x.may(1, 5), 0);
    due("10: b may at a's end", x.may(1, 6), 1);
    due("10: a may move", x.may(2, 0), 1);
    due("10: a may not be late", x.may(2, 3), 0);
    x.go(4);
    due("10: of DONE ones too", x.may(1, 5), 0);
    due("10: of DONE ones too", x.may(1, 6), 1);
    Check.rules(x, "job 1 before 0");
    due("10: too late for that", x.may(1, 6), 0);
    Check.rules(x, "");
    due("10: no rules", x.may(1, 5), 1);
    due("12: in order", ordered(), 600);
  }

  private static long ordered() {
    PlugHours x = new PlugHours();
    x.home(1000);
    for (int j = 0; j < 3; j++) x.job(0, 0, 5, 2, 1, 1, 0, 0);
    Check.rules(x, "job 2 before 1;job 1 before 0");
    long sum = x.whole();
    due("12: last", x.of(0, 5), 4);
    due("12: second", x.of(1, 5), 2);
    due("12: first", x.of(2, 5), 0);
    due("13: job by job there is no room ahead of the first", x.each(), 1);
    due("13: the second", x.of(1, 5), -1);
    due("13: the third has to be ahead of one that is OPEN", x.of(2, 5), 0);
    Check.rules(x, "job 0 before 1;job 1 before 0");
    due("12: both ahead of each other", x.whole(), PlugHours.BEYOND - 6);
    return sum;
  }

  public static void main(String[] args) {
    tape();
    grammar();
    mostRules();
    quiet();
    dear();
    before();
    CHECK.end("RulesTest");
  }
}
