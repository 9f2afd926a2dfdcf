/** Promises 1 to 9: a new object, prices, homes, cable, jobs. */
public final class HomesTest {
  private static final Check CHECK = new Check();

  private static void due(String what, long got, long want) { CHECK.due(what, got, want); }

  private static void newObject() {
    PlugHours x = new PlugHours();
    for (int what = 0; what < 10; what++) due("1: count(" + what + ")", x.count(what), 0);
    due("1: status", x.status(), 0);
    due("1: fault", x.fault(), -1);
    due("1: of", x.of(0, 0), -1);
    due("1: load", x.load(0, 0), -1);
    due("1: filled", x.filled(0, 0), -1000);
    due("1: PLAIN at first", x.at(0, 0), 100);
    due("1: CABLE at first", x.cable(80000), 80000);
    due("1: whole of nothing", x.whole(), 0);
    due("1: each of nothing", x.each(), 0);
    due("1: saved", x.saved(0), 0);
  }

  private static void price() {
    PlugHours x = new PlugHours();
    int[][] wrong = {{-1, 0, 0}, {168, 0, 0}, {0, -1001, 0}, {0, 10001, 0}, {0, 0, -1}, {0, 0, 1001}};
    for (int[] w : wrong) {
      due("2: price " + w[0] + " " + w[1] + " " + w[2], x.price(w[0], w[1], w[2]), -1);
      due("2: status", x.status(), -1);
    }
    due("2: none was kept", x.count(3), 0);
    due("2: low edges", x.price(0, -1000, 0), 1);
    due("2: high edges", x.price(167, 10000, 1000), 2);
    for (int i = 3; i <= 400; i++) due("2: price " + i, x.price(5, i, 7), i);
    due("2: the 401st", x.price(5, 1, 7), -5);
    due("2: status of the 401st", x.status(), -5);
    due("2: a wrong number goes first", x.price(168, 1, 7), -1);
    due("2: still 400", x.count(3), 400);
    due("2: the last one counts", x.at(5, 7), 400);
  }

  private static void plain() {
    PlugHours x = new PlugHours();
    due("3: what it was", x.plain(-1000), 100);
    due("3: too low", x.plain(-1001), -5000);
    due("3: status", x.status(), -1);
    due("3: too high", x.plain(10001), -5000);
    due("3: stays", x.at(3, 3), -1000);
    due("3: what it was then", x.plain(10000), -1000);
    due("3: status", x.status(), 0);
    due("3: counts at once", x.at(3, 3), 10000);
    due("3: and for what was", x.plain(0), 10000);
  }

  private static void at() {
    PlugHours x = new PlugHours();
    x.price(4, 10, 0);
    x.price(4, 20, 5);
    x.price(4, 30, 2);
    due("4: known in 0", x.at(4, 0), 10);
    due("4: known in 1", x.at(4, 1), 10);
    due("4: known in 2", x.at(4, 2), 30);
    due("4: told last, not known last", x.at(4, 5), 30);
    due("4: at 1000", x.at(4, 1000), 30);
    due("4: another hour", x.at(5, 1000), 100);
    x.price(6, 1, 1000);
    due("4: not yet known", x.at(6, 999), 100);
    due("4: known", x.at(6, 1000), 1);
    int[][] wrong = {{-1, 0}, {168, 0}, {0, -1}, {0, 1001}};
    x.home(20001);
    for (int[] w : wrong) due("4: at " + w[0] + " " + w[1], x.at(w[0], w[1]), -5000);
    due("4: tells no refusal of its own", x.status(), -1);
    due("4: hour 167", x.at(167, 0), 100);
  }

  private static void homesAndCable() {
    PlugHours x = new PlugHours();
    due("5: below 0", x.home(-1), -1);
    due("5: above 20000", x.home(20001), -1);
    due("5: low edge", x.home(0), 0);
    due("5: high edge", x.home(20000), 1);
    due("6: hour -1", x.base(0, -1, 0), -1);
    due("6: hour 24", x.base(0, 24, 0), -1);
    due("6: watts -1", x.base(0, 0, -1), -1);
    due("6: watts 5001", x.base(0, 0, 5001), -1);
    due("6: no such home", x.base(2, 0, 0), -2);
    due("6: below all homes", x.base(-1, 0, 0), -2);
    due("6: a wrong number goes first", x.base(2, 24, 0), -1);
    due("6: set", x.base(1, 23, 5000), 0);
    due("6: in that hour of each day", x.load(1, 167), 5000);
    due("6: and the first", x.load(1, 23), 5000);
    due("6: not in others", x.load(1, 22), 0);
    due("6: not of others", x.load(0, 23), 0);
    due("6: set anew", x.base(1, 23, 7), 0);
    due("6: anew", x.load(1, 47), 7);
    due("7: what it was", x.cable(0), 80000);
    due("7: below 0", x.cable(-1), -1);
    due("7: above 80000", x.cable(80001), -1);
    due("7: status", x.status(), -1);
    due("7: stays", x.cable(80000), 0);
    due("7: status", x.status(), 0);
    due("5: third", x.home(1), 2);
    due("5: fourth", x.home(1), 3);
    due("5: fifth", x.home(1), -5);
    due("5: a wrong number goes first", x.home(-1), -1);
    due("5: four", x.count(1), 4);
  }

  private static void jobs() {
    PlugHours x = new PlugHours();
    x.home(5000);
    int[][] wrong = {{0, -1, 0, 1, 0, 0, 0, 0}, {0, 168, 168, 1, 0, 0, 0, 0}, {0, 167, 168, 1, 0, 0, 0, 0},
        {0, 5, 4, 1, 0, 0, 0, 0}, {0, 0, 24, 1, 0, 0, 0, 0}, {0, 0, 0, 0, 0, 0, 0, 0}, {0, 0, 0, 5, 0, 0, 0, 0},
        {0, 0, 0, 1, -1, 0, 0, 0}, {0, 0, 0, 1, 5001, 0, 0, 0}, {0, 0, 0, 2, 0, -1, 0, 0}, {0, 0, 0, 3, 0, 0, 5001, 0},
        {0, 0, 0, 4, 0, 0, 0, -1}, {1, 0, 0, 4, 0, 0, 0, 5001}, {0, Integer.MIN_VALUE, Integer.MAX_VALUE, 1, 0, 0, 0, 0}};
    for (int[] w : wrong) due("8: a wrong number", x.job(w[0], w[1], w[2], w[3], w[4], w[5], w[6], w[7]), -1);
    due("8: no such home", x.job(1, 0, 0, 1, 0, 0, 0, 0), -2);
    due("8: no such home below", x.job(-1, 0, 0, 1, 0, 0, 0, 0), -2);
    due("8: what is beyond n isn't looked at", x.job(0, 0, 23, 1, 5000, -1, 5001, -9), 0);
    due("8: also beyond 2", x.job(0, 167, 167, 2, 1, 2, -1, 5001), 1);
    due("8: also beyond 3", x.job(0, 144, 167, 3, 1, 2, 3, -1), 2);
    due("8: four hours", x.job(0, 1, 2, 4, 1, 2, 3, 4), 3);
    for (int i = 4; i < 16; i++) due("8: job " + i, x.job(0, 0, 0, 1, 0, 0, 0, 0), i);
    due("8: the 17th", x.job(0, 0, 0, 1, 0, 0, 0, 0), -5);
    due("8: no such home goes first", x.job(1, 0, 0, 1, 0, 0, 0, 0), -2);
    due("8: OPEN", x.count(7), 16);
    int[] want = {0, 1, 2, 4, 0, -1, -1, -1, -1, -1, 1, 2, 3, 4, -1};
    for (int what = 0; what < want.length; what++) due("9: of(3, " + what + ")", x.of(3, what), want[what]);
    due("9: beyond its hours", x.of(0, 11), -1);
    due("9: its only hour", x.of(0, 10), 5000);
    due("9: its second of two", x.of(1, 11), 2);
    due("9: its third of two", x.of(1, 12), -1);
    due("9: what -1", x.of(3, -1), -1);
    due("9: no such job", x.of(16, 0), -1);
    due("9: below all jobs", x.of(-1, 0), -1);
    due("9: status is not its matter", x.status(), -2);
    due("9: PLANNED", x.put(3, 2), 0);
    due("9: PLANNED", x.of(3, 4), 1);
    due("9: its hour", x.of(3, 5), 2);
    x.go(2);
    due("9: PLANNED for NOW still", x.of(3, 4), 1);
    x.go(1);
    due("9: DONE", x.of(3, 4), 2);
    due("9: its hour stays", x.of(3, 5), 2);
  }

  public static void main(String[] args) {
    newObject();
    price();
    plain();
    at();
    homesAndCable();
    jobs();
    CHECK.end("HomesTest");
  }
}
