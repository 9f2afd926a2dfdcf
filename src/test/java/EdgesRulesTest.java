/** Boundary cases of term II's RULES and FAULT, and of promises 14 to 17. */
public final class EdgesRulesTest {
  private static final Check CHECK = new Check();
  private static final int BLANKS = 0x20202020;

  private static void due(String what, long got, long want) { CHECK.due(what, got, want); }

  private static int feedBlanks(PlugHours x) { return x.feed(BLANKS, BLANKS, BLANKS, BLANKS, BLANKS); }

  /** A text that can be: how many rules it becomes. */
  private static void good(String why, String text, int rules) {
    PlugHours x = new PlugHours();
    Check.rules(x, "?");
    String what = why + ": '" + text + "'";
    due(what, Check.rules(x, text), rules);
    due(what + ", its fault", x.fault(), -1);
    due(what + ", its status", x.status(), 0);
    due(what + ", its rules", x.count(4), rules);
    due(what + ", the tape", x.count(6), 0);
  }

  /** A text that can't be: the place of its first token that can't go on. */
  private static void fault(String why, String text, int place) {
    PlugHours x = new PlugHours();
    Check.rules(x, "dear 5;dear 6");
    String what = why + ": '" + text + "'";
    due(what, Check.rules(x, text), -6);
    due(what + ", its fault", x.fault(), place);
    due(what + ", its status", x.status(), -6);
    due(what + ", the rules stay", x.count(4), 2);
    due(what + ", the tape", x.count(6), 0);
  }

  private static String times(String text, int n) { return text.repeat(n); }

  /** Promise 14: "NONE, if there would be more than 300". */
  private static void fullTape() {
    PlugHours x = new PlugHours();
    for (int i = 1; i <= 15; i++) due("14: to " + 20 * i, feedBlanks(x), 20 * i);
    due("14: to 320", feedBlanks(x), -1);
    due("14: nothing came", x.count(6), 300);
    x.end(281);
    due("14: to 301", feedBlanks(x), -1);
    due("14: nothing came", x.count(6), 281);
    x.end(280);
    due("14: to 300", feedBlanks(x), 300);
    x.end(0);
    due("14: on an empty one", feedBlanks(x), 20);
  }

  /** Promise 14: "four of each number, the highest first", also of numbers below 0. */
  private static void bytes() {
    PlugHours x = new PlugHours();
    x.feed(0x64656172, 0x20373b64, 0x65617220, 0x383b6465, 0x61722039);
    due("14: dear 7;dear 8;dear 9", x.rules(), 3);
    x.feed(0x64656172, 0x3720ff20, -1, Integer.MIN_VALUE, 0);
    due("14: a byte of 255", x.rules(), -6);
    due("14: its place", x.fault(), 6);
    x.feed(0xe4656172, 0x37202020, BLANKS, BLANKS, BLANKS);
    due("14: a byte of 228 is no d", x.rules(), -6);
    due("14: its place", x.fault(), 0);
    x.feed(0x64656172, 0xb7202020, BLANKS, BLANKS, BLANKS);
    due("14: a byte of 183 is no 7", x.rules(), -6);
    due("14: its place", x.fault(), 4);
    x.feed(0x64656172, 0x37a0a0a0, BLANKS, BLANKS, BLANKS);
    due("14: a byte of 160 is no blank", x.rules(), -6);
    due("14: its place", x.fault(), 5);
    x.feed(0x64656172, 0x37000000, 0, 0, 0);
    due("14: nor is a byte of 0", x.rules(), -6);
    due("14: its place", x.fault(), 5);
  }

  /** Promise 15: "NONE, if it has not so many, or n is below 0". */
  private static void end() {
    PlugHours x = new PlugHours();
    due("15: an empty one's end", x.end(0), 0);
    due("15: one more than it has", x.end(1), -1);
    feedBlanks(x);
    int[] none = {-1, 21, 300, 301, Integer.MIN_VALUE, Integer.MAX_VALUE};
    for (int n : none) {
      due("15: end(" + n + ")", x.end(n), -1);
      due("15: it stays", x.count(6), 20);
    }
    due("15: all that it has", x.end(20), 20);
    due("15: one less", x.end(19), 19);
    due("15: no way back", x.end(20), -1);
    due("15: none", x.end(0), 0);
    due("15: it is empty", x.count(6), 0);
  }

  /** Promise 15: "The TAPE has its first n bytes alone": what was behind them does not come back. */
  private static void cut() {
    PlugHours x = new PlugHours();
    Check.tape(x, "dear 7;dear 8");
    x.end(6);
    due("15: one rule", x.rules(), 1);
    Check.tape(x, "dear 123");
    x.end(7);
    Check.tape(x, "4;dear 5");
    due("14: 'dear 124;dear 5'", x.rules(), 2);
    PlugHours y = new PlugHours();
    y.home(0);
    y.job(0, 0, 0, 1, 0, 0, 0, 0);
    Check.tape(y, "dear 999");
    y.end(7);
    due("15: 'dear 99'", y.rules(), 1);
    due("15: 100 is above it", y.may(0, 0), 0);
  }

  /** Term II: "a TEXT of at most 300 bytes". */
  private static void longestText() {
    String rule = "dear 7";
    good("II, 16: 300 bytes", times(" ", 300 - rule.length()) + rule, 1);
    good("II, 16: 300 bytes", rule + times(" ", 300 - rule.length()), 1);
    good("II, 16: 300 blanks", times(" ", 300), 0);
    good("II, 16: a number of 296 digits", "dear" + times("0", 295) + "7", 1);
    fault("II, 17: 300 bytes, and the end", times(" ", 296) + "dear", 300);
    fault("II, 17: the last of 300 bytes", times(" ", 293) + rule + ",", 299);
    fault("II, 17: a number too large, of 296 digits", "dear" + times("9", 296), 4);
    fault("II, 17: 300 letters", times("d", 300), 0);
    fault("II, 17: 300 semicolons", times(";", 300), 0);
  }

  /** Promise 16: "blanks alone: none". */
  private static void blanksAlone() {
    good("16: no text", "", 0);
    good("16: one blank", " ", 0);
    good("16: many", times(" ", 41), 0);
    PlugHours x = new PlugHours();
    Check.rules(x, "dear 0");
    due("16: a rule", x.count(4), 1);
    due("16: none take its place", x.rules(), 0);
    due("16: it is gone", x.count(4), 0);
    x.home(0);
    x.job(0, 0, 0, 1, 0, 0, 0, 0);
    due("10: and it does nothing any more", x.may(0, 0), 1);
  }

  /** Term II: "any blanks (32) between TOKENS", none too; no other byte is a blank. */
  private static void blanks() {
    good("II: none", "quiet0from1to2;dear3;job4before5", 3);
    good("II: many", "  quiet  0  from  1  to  2  ;  dear  3  ;  job  4  before  5  ", 3);
    good("II: around ';' alone", "dear3 ; dear4", 2);
    int[] others = {0, 1, 9, 10, 13, 31, 33, 127, 128, 160, 255};
    for (int other : others) {
      fault("II: byte " + other + " behind a rule", "dear 3" + (char) other, 6);
      fault("II: byte " + other + " in a rule", "dear" + (char) other + "3", 4);
      fault("II: byte " + other + " at first", (char) other + "dear 3", 0);
    }
    fault("II: a blank in a word", "de ar 3", 0);
    fault("II: a blank in a number", "dear 1 0", 7);
    fault("II: a blank in a number", "job 1 0 before 3", 6);
  }

  /** Term II: TOKENS are "longest rows of letters a .. z, of digits, single other bytes". */
  private static void tokens() {
    fault("II: a letter more", "deara 3", 0);
    fault("II: a letter z more", "dearz 3", 0);
    fault("II: a letter more ahead", "adear 3", 0);
    fault("II: a letter less", "dea 3", 0);
    fault("II: two words in one", "quiet 0 fromto 1", 8);
    fault("II: a word behind a word", "job 1 beforejob 2", 6);
    fault("II: '`' is ahead of a", "dear`3", 4);
    fault("II: '{' is behind z", "dear{3", 4);
    fault("II: '/' is ahead of 0", "dear 3/", 6);
    fault("II: ':' is behind 9", "dear 3:", 6);
    fault("II: ':' is no digit", "dear :", 5);
    fault("II: large letters", "Dear 3", 0);
    fault("II: large letters inside", "deAr 3", 0);
    fault("II: large letters behind", "job 1 Before 2", 6);
    good("II: digits and letters are rows of their own", "job1before2;dear10000", 2);
    fault("II: letters end a row of digits", "dear 10x00", 7);
    fault("II: a sign", "dear +3", 5);
    fault("II: below 0", "dear -3", 5);
    fault("II: a point", "dear 3.0", 6);
  }

  /** Term II: "RULE {";" RULE}". */
  private static void semicolons() {
    good("II: one", "dear 3", 1);
    good("II: two", "dear 3;dear 3", 2);
    fault("II: one ';' alone", ";", 0);
    fault("II: ';' at first", ";dear 3", 0);
    fault("II: ';' at the end", "dear 3;", 7);
    fault("II: ';' at the end, and blanks", "dear 3;  ", 9);
    fault("II: two of them", "dear 3;;dear 4", 7);
    fault("II: none between", "dear 3 dear 4", 7);
    fault("II: ':' between", "dear 3: dear 4", 6);
    fault("II: ';' within", "dear; 3", 4);
  }

  /** Term II: "HOMES 0 .. 3" (in a text they need not be there). */
  private static void homes() {
    for (int home = 0; home <= 3; home++) good("II: home " + home, "quiet " + home + " from 1 to 2", 1);
    String[] none = {"4", "5", "9", "10", "13", "4294967296", "99999999999999999999"};
    for (String home : none) fault("II: home " + home, "quiet " + home + " from 1 to 2", 6);
  }

  /** Term II: "HOURS 0 .. 23 (the first may be behind the second: over midnight)". */
  private static void hours() {
    int[][] can = {{0, 0}, {0, 23}, {23, 0}, {23, 23}, {12, 11}, {11, 12}};
    for (int[] c : can) good("II: hours", "quiet 0 from " + c[0] + " to " + c[1], 1);
    String[] none = {"24", "25", "99", "100", "167", "4294967296"};
    for (String hour : none) {
      fault("II: the first hour", "quiet 0 from " + hour + " to 2", 13);
      fault("II: the second hour", "quiet 0 from 1 to " + hour, 18);
    }
  }

  /** Term II: "NUMBERS to 10,000". */
  private static void numbers() {
    String[] can = {"0", "1", "9999", "10000", "010000", "00"};
    for (String number : can) good("II: a number", "dear " + number, 1);
    String[] none = {"10001", "10010", "19999", "99999", "100000", "65536", "2147483648", "4294967296", "18446744073709551616"};
    for (String number : none) fault("II: a number", "dear " + number, 5);
  }

  /** Term II: "JOBS 0 .. 15, unlike"; FAULT: "the second of like JOBS". */
  private static void jobs() {
    int[][] can = {{0, 15}, {15, 0}, {0, 1}, {14, 15}};
    for (int[] c : can) good("II: jobs", "job " + c[0] + " before " + c[1], 1);
    String[] none = {"16", "17", "99", "100", "4294967296"};
    for (String job : none) {
      fault("II: the first job", "job " + job + " before 1", 4);
      fault("II: the second job", "job 1 before " + job, 13);
    }
    fault("II: the first comes first", "job 16 before 16", 4);
    for (int job = 0; job <= 9; job++) fault("II: like jobs", "job " + job + " before " + job, 13);
    for (int job = 10; job <= 15; job++) fault("II: like jobs", "job " + job + " before " + job, 14);
    fault("II: like jobs, written otherwise", "job 1 before 01", 13);
    fault("II: like jobs, and more behind", "job 3 before 3 x", 13);
    good("II: jobs of two rules may be like", "job 1 before 2;job 1 before 2;job 2 before 1", 3);
  }

  /** Term II: FAULT of "the end's: the TEXT's length", wherever a rule breaks off. */
  private static void theEnd() {
    String[] rules = {"quiet 0 from 1 to 2", "dear 3", "job 4 before 5"};
    for (String rule : rules) {
      String[] words = rule.split(" ");
      String text = "";
      for (int i = 0; i < words.length - 1; i++) {
        text = text + (i == 0 ? "" : " ") + words[i];
        fault("II, 17: broken off", text, text.length());
        fault("II, 17: broken off, and a blank", text + " ", text.length() + 1);
        fault("II, 17: broken off, behind another", "dear 7; " + text, 8 + text.length());
      }
    }
  }

  /** Term II: FAULT is the first TOKEN that can't go on, each place of each rule tried with one that can't. */
  private static void firstToken() {
    String[] rules = {"quiet 0 from 1 to 2", "dear 3", "job 4 before 5"};
    String[] wrong = {"x", ";", "?", "quiet", "from", "to", "dear", "job", "before", "99999"};
    for (String rule : rules) {
      String[] words = rule.split(" ");
      int place = 0;
      for (int i = 0; i < words.length; i++) {
        for (String w : wrong) {
          boolean begins = i == 0 && (w.equals("quiet") || w.equals("dear") || w.equals("job"));
          if (w.equals(words[i]) || begins) continue;
          String[] changed = words.clone();
          changed[i] = w;
          fault("II, 17: word " + i, String.join(" ", changed), place);
        }
        place += words[i].length() + 1;
      }
    }
    fault("II, 17: a number as long as the word", "quiet 0 0001 to 2", 8);
    fault("II, 17: a number as long as the word", "quiet 0 from 1 23", 15);
    fault("II, 17: a number as long as the word", "job 4 000005", 6);
    fault("II, 17: a number as long as the word", "0005", 0);
    fault("II, 17: a number as long as ';'", "dear 3 4", 7);
    fault("II, 17: the first of two", "dear x; dear y", 5);
    fault("II, 17: blanks ahead count", "   dear   x", 10);
  }

  /** Term II: "20 RULES at most (the 21st's first TOKEN)". */
  private static void mostRules() {
    String twenty = "dear 9" + times(";dear 9", 19);
    good("II: 19", "dear 9" + times(";dear 9", 18), 19);
    good("II: 20", twenty, 20);
    fault("II: 21", twenty + ";dear 9", 140);
    fault("II: 21, a blank ahead", twenty + "; dear 9", 141);
    fault("II: 21, of another kind", twenty + ";job 1 before 2", 140);
    fault("II: 21, which can't be anyhow", twenty + ";dear x", 140);
    fault("II: 21, of one token that can't be", twenty + ";x", 140);
    fault("II: 22", twenty + ";dear 9;dear 9", 140);
    fault("II: the 21st is the end", twenty + ";", 140);
    fault("II: the 21st is the end, behind blanks", twenty + ";  ", 142);
    fault("II: a fault ahead of the 21st", twenty + " dear 9;dear 9", 140);
    fault("II: a fault in the 20th", "dear 9" + times(";dear 9", 18) + ";dear x;dear 9", 138);
  }

  /** Promise 16: "-6: they stay, FAULT is told", with all that they do; a text is read whole or not at all. */
  private static void theyStay() {
    PlugHours x = new PlugHours();
    x.home(0);
    x.job(0, 0, 3, 1, 0, 0, 0, 0);
    Check.rules(x, "quiet 0 from 1 to 1;dear 100");
    due("16: can't be", Check.rules(x, "quiet 0 from 0 to 0;dear 0;x"), -6);
    due("16: hour 0", x.may(0, 0), 1);
    due("16: hour 1", x.may(0, 1), 0);
    due("16: can't be, once more", Check.rules(x, "quiet 0 from 2 to 2;dear 0;x"), -6);
    due("16: hour 2", x.may(0, 2), 1);
    due("16: and now others", Check.rules(x, "quiet 0 from 3 to 3"), 1);
    due("16: hour 1 of the old ones", x.may(0, 1), 1);
    due("16: hour 3", x.may(0, 3), 0);
    due("16: the rules before are not added to", x.count(4), 1);
  }

  /** Promise 16: the TAPE becomes RULES, and those that were are gone, of each kind, however often. */
  private static void othersAreGone() {
    PlugHours x = new PlugHours();
    x.home(0);
    for (int job = 0; job < 2; job++) x.job(0, 0, 3, 1, 0, 0, 0, 0);
    x.put(1, 1);
    String[] texts = {"job 0 before 1", "quiet 0 from 2 to 2", "dear 99", "job 1 before 0", "", "quiet 0 from 0 to 0", "x", "dear 100"};
    String[] want = {"1000", "1101", "0000", "0011", "1111", "0111", "0111", "1111"};
    for (int round = 0; round < 3; round++) {
      for (int i = 0; i < texts.length; i++) {
        Check.rules(x, texts[i]);
        for (int hour = 0; hour < 4; hour++) {
          due("16: '" + texts[i] + "', may(0, " + hour + ")", x.may(0, hour), want[i].charAt(hour) - '0');
        }
      }
    }
  }

  /** Promise 16: "what is PLANNED stays", also against the new RULES. */
  private static void plannedStays() {
    PlugHours x = new PlugHours();
    x.home(5);
    x.job(0, 0, 3, 1, 5, 0, 0, 0);
    x.put(0, 2);
    due("16: quiet all day", Check.rules(x, "quiet 0 from 0 to 23"), 1);
    due("16: PLANNED", x.of(0, 4), 1);
    due("16: for its hour", x.of(0, 5), 2);
    due("19: and drawn", x.load(0, 2), 5);
    due("10: where it could not begin", x.may(0, 2), 0);
    due("11: nor be put anew", x.put(0, 2), -6);
    due("11: and then it stays, too", x.of(0, 5), 2);
    x.go(3);
    due("18: it begins all the same", x.of(0, 4), 2);
  }

  /** Promise 17: "FAULT of the latest rules(): its place; NONE without". */
  private static void latestFault() {
    PlugHours x = new PlugHours();
    due("17: ahead of any", x.fault(), -1);
    Check.rules(x, "x");
    due("17: place 0 is one", x.fault(), 0);
    Check.tape(x, "dear 7");
    due("17: a text that isn't read yet", x.fault(), 0);
    x.rules();
    due("17: the latest has none", x.fault(), -1);
    Check.rules(x, "dear");
    due("17: the latest", x.fault(), 4);
    x.home(-1);
    x.go(1);
    due("17: other calls leave it", x.fault(), 4);
    x.rules();
    due("17: no text, no fault", x.fault(), -1);
  }

  public static void main(String[] args) {
    fullTape();
    bytes();
    end();
    cut();
    longestText();
    blanksAlone();
    blanks();
    tokens();
    semicolons();
    homes();
    hours();
    numbers();
    jobs();
    theEnd();
    firstToken();
    mostRules();
    theyStay();
    othersAreGone();
    plannedStays();
    latestFault();
    CHECK.end("EdgesRulesTest");
  }
}
