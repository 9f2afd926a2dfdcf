import java.util.ArrayList;
import java.util.Arrays;
import java.util.List;

/** The document written down a second time as slowly and plainly as can be, to hold the class against. */
final class Model {
  static final class Job {
    int home, first, last, n, state, begin = -1;
    int[] need;
  }

  static final class Store {
    int home, most, level, in, out, loss, watts;
  }

  static final class Rule {
    String kind;
    int a, b, c;
  }

  int now = 0, plain = 100, cable = 80000, status = 0, fault = -1;
  final List<int[]> prices = new ArrayList<>();
  final List<int[]> homes = new ArrayList<>();
  final List<Job> jobs = new ArrayList<>();
  final List<Store> stores = new ArrayList<>();
  List<Rule> rules = new ArrayList<>();
  final StringBuilder tape = new StringBuilder();
  int[] filledMoves = new int[0], filledLevels = new int[0];

  private int refuse(int code) { status = code; return code; }
  private int fine(int answer) { status = 0; return answer; }
  private static boolean in(int x, int low, int high) { return low <= x && x <= high; }

  int price(int hour, int price, int known) {
    if (!in(hour, 0, 167) || !in(price, -1000, 10000) || !in(known, 0, 1000)) return refuse(-1);
    if (prices.size() == 400) return refuse(-5);
    prices.add(new int[] {hour, price, known});
    return fine(prices.size());
  }

  int plain(int price) {
    if (!in(price, -1000, 10000)) { refuse(-1); return -5000; }
    int was = plain;
    plain = price;
    return fine(was);
  }

  int at(int hour, int known) {
    if (!in(hour, 0, 167) || !in(known, 0, 1000)) return -5000;
    int found = plain;
    for (int[] p : prices) if (p[0] == hour && p[2] <= known) found = p[1];
    return found;
  }

  int home(int fuse) {
    if (!in(fuse, 0, 20000)) return refuse(-1);
    if (homes.size() == 4) return refuse(-5);
    int[] h = new int[25];
    h[24] = fuse;
    homes.add(h);
    return fine(homes.size() - 1);
  }

  int base(int home, int hour, int watts) {
    if (!in(hour, 0, 23) || !in(watts, 0, 5000)) return refuse(-1);
    if (!in(home, 0, homes.size() - 1)) return refuse(-2);
    homes.get(home)[hour] = watts;
    return fine(0);
  }

  int cable(int watts) {
    if (!in(watts, 0, 80000)) return refuse(-1);
    int was = cable;
    cable = watts;
    return fine(was);
  }

  int job(int home, int first, int last, int n, int a, int b, int c, int d) {
    if (!in(first, 0, 167) || !in(last, 0, 167) || !in(last - first, 0, 23) || !in(n, 1, 4)) return refuse(-1);
    int[] need = Arrays.copyOf(new int[] {a, b, c, d}, n);
    for (int w : need) if (!in(w, 0, 5000)) return refuse(-1);
    if (!in(home, 0, homes.size() - 1)) return refuse(-2);
    if (jobs.size() == 16) return refuse(-5);
    Job j = new Job();
    j.home = home; j.first = first; j.last = last; j.n = n; j.need = need;
    jobs.add(j);
    return fine(jobs.size() - 1);
  }

  private boolean isJob(int job) { return in(job, 0, jobs.size() - 1); }

  int of(int job, int what) {
    if (!isJob(job)) return -1;
    Job j = jobs.get(job);
    int[] six = {j.home, j.first, j.last, j.n, j.state, j.state == 0 ? -1 : j.begin};
    if (in(what, 0, 5)) return six[what];
    return in(what, 10, 9 + j.n) ? j.need[what - 10] : -1;
  }

  private int needIn(Job j, int hour) {
    return in(hour, j.begin, j.begin + j.n - 1) ? j.need[hour - j.begin] : 0;
  }

  private int draws(int home, int hour, Job without) {
    int sum = homes.get(home)[hour % 24];
    for (Job j : jobs) if (j != without && j.home == home && j.state != 0) sum += needIn(j, hour);
    return sum;
  }

  private boolean mayBegin(Job j, int h) {
    if (h < now || !in(h, j.first, j.last) || h + j.n - 1 > 167) return false;
    for (int k = 0; k < j.n; k++) {
      int t = h + k;
      for (Rule r : rules) {
        int d = t % 24;
        if (r.kind.equals("quiet") && r.a == j.home && (r.b <= r.c ? in(d, r.b, r.c) : d >= r.b || d <= r.c)) return false;
        if (r.kind.equals("dear") && at(t, now) > r.a) return false;
      }
      if (draws(j.home, t, j) + j.need[k] > homes.get(j.home)[24]) return false;
      int all = j.need[k];
      for (int i = 0; i < homes.size(); i++) all += draws(i, t, j);
      if (all > cable) return false;
    }
    int me = jobs.indexOf(j);
    for (Rule r : rules) {
      if (!r.kind.equals("job")) continue;
      if (r.a == me && r.b < jobs.size() && jobs.get(r.b).state != 0 && jobs.get(r.b).begin < h + j.n) return false;
      if (r.b == me && r.a < jobs.size() && jobs.get(r.a).state != 0 && h < jobs.get(r.a).begin + jobs.get(r.a).n) return false;
    }
    return true;
  }

  int may(int job, int hour) {
    if (!isJob(job) || !in(hour, 0, 167) || jobs.get(job).state == 2) return -1;
    return mayBegin(jobs.get(job), hour) ? 1 : 0;
  }

  int put(int job, int hour) {
    if (!isJob(job)) return refuse(-2);
    Job j = jobs.get(job);
    if (j.state == 2) return refuse(-3);
    if (!mayBegin(j, hour)) return refuse(-6);
    j.state = 1;
    j.begin = hour;
    return fine(0);
  }

  private long costOf(Job j, int from, int known) {
    long sum = 0;
    for (int k = 0; k < j.n && from + k <= 167; k++) sum += (long) j.need[k] * at(from + k, known);
    return sum;
  }

  /** How many rows of hours whole() would look at. */
  long rows() {
    long rows = 1;
    for (Job j : jobs) if (j.state != 2) rows *= j.last - j.first + 1;
    return rows;
  }

  long whole() {
    List<Job> left = new ArrayList<>();
    for (Job j : jobs) if (j.state != 2) left.add(j);
    if (left.size() > 5) return PlugHours.BEYOND + refuse(-5);
    int[] wasState = new int[left.size()], wasBegin = new int[left.size()], row = new int[left.size()], best = null;
    long least = 0;
    for (int i = 0; i < row.length; i++) {
      wasState[i] = left.get(i).state;
      wasBegin[i] = left.get(i).begin;
      row[i] = left.get(i).first;
    }
    for (boolean more = true; more; ) {
      long sum = 0;
      for (int i = 0; i < row.length; i++) {
        left.get(i).state = 1;
        left.get(i).begin = row[i];
        sum += costOf(left.get(i), row[i], now);
      }
      boolean good = best == null || sum < least;
      for (int i = 0; i < row.length && good; i++) good = mayBegin(left.get(i), row[i]);
      if (good) { least = sum; best = row.clone(); }
      int i = row.length - 1;
      while (i >= 0 && row[i] == left.get(i).last) { row[i] = left.get(i).first; i--; }
      if (i >= 0) row[i]++; else more = false;
    }
    for (int i = 0; i < row.length; i++) {
      left.get(i).state = best == null ? wasState[i] : 1;
      left.get(i).begin = best == null ? wasBegin[i] : best[i];
    }
    if (best == null) return PlugHours.BEYOND + refuse(-6);
    fine(0);
    return least;
  }

  int each() {
    int open = 0;
    for (Job j : jobs) if (j.state == 1) j.state = 0;
    for (Job j : jobs) {
      if (j.state != 0) continue;
      int best = -1;
      for (int h = j.last; h >= j.first; h--) {
        if (mayBegin(j, h) && (best < 0 || costOf(j, h, now) <= costOf(j, best, now))) best = h;
      }
      if (best < 0) open++; else { j.state = 1; j.begin = best; }
    }
    return open;
  }

  int feed(int... words) {
    if (tape.length() + 20 > 300) return -1;
    for (int w : words) for (int s = 24; s >= 0; s -= 8) tape.append((char) (w >>> s & 255));
    return tape.length();
  }

  int end(int n) {
    if (n < 0 || n > tape.length()) return -1;
    tape.setLength(n);
    return n;
  }

  private List<String> tokens;
  private List<Integer> places;
  private int token;

  int rules() {
    String text = tape.toString();
    tape.setLength(0);
    tokens = new ArrayList<>();
    places = new ArrayList<>();
    java.util.regex.Matcher m = java.util.regex.Pattern.compile("[a-z]+|[0-9]+|[^ ]", java.util.regex.Pattern.DOTALL).matcher(text);
    while (m.find()) { tokens.add(m.group()); places.add(m.start()); }
    tokens.add("");
    places.add(text.length());
    token = 0;
    List<Rule> read = new ArrayList<>();
    boolean good = true;
    if (tokens.size() > 1) {
      do {
        good = read.size() < 20 && rule(read);
      } while (good && word(";"));
      good = good && tokens.get(token).isEmpty();
    }
    fault = good ? -1 : places.get(token);
    if (!good) return refuse(-6);
    rules = read;
    return fine(rules.size());
  }

  private boolean word(String w) {
    if (!tokens.get(token).equals(w)) return false;
    token++;
    return true;
  }

  private int number(int most, int unlike) {
    String t = tokens.get(token);
    if (t.isEmpty() || t.charAt(0) < '0' || t.charAt(0) > '9') return -1;
    java.math.BigInteger v = new java.math.BigInteger(t);
    if (v.compareTo(java.math.BigInteger.valueOf(most)) > 0 || v.intValue() == unlike) return -1;
    token++;
    return v.intValue();
  }

  private boolean rule(List<Rule> into) {
    Rule r = new Rule();
    into.add(r);
    if (word("quiet")) {
      r.kind = "quiet";
      return (r.a = number(3, -1)) >= 0 && word("from") && (r.b = number(23, -1)) >= 0 && word("to")
          && (r.c = number(23, -1)) >= 0;
    }
    if (word("dear")) {
      r.kind = "dear";
      return (r.a = number(10000, -1)) >= 0;
    }
    r.kind = "job";
    return word("job") && (r.a = number(15, -1)) >= 0 && word("before") && (r.b = number(15, r.a)) >= 0;
  }

  int fault() { return fault; }

  int go(int hours) {
    if (!in(hours, 1, 48) || now + hours > 167) return refuse(-1);
    for (int i = 0; i < hours; i++) {
      for (Job j : jobs) if (j.state == 1 && j.begin == now) j.state = 2;
      now++;
    }
    return fine(now);
  }

  int load(int home, int hour) {
    return in(home, 0, homes.size() - 1) && in(hour, 0, 167) ? draws(home, hour, null) : -1;
  }

  long cost(int job, int known) {
    if (!isJob(job) || jobs.get(job).state == 0 || !in(known, 0, 1000)) return 0;
    return costOf(jobs.get(job), jobs.get(job).begin, known);
  }

  long saved(int known) {
    long sum = 0;
    if (in(known, 0, 1000)) {
      for (Job j : jobs) if (j.state == 2) sum += costOf(j, j.first, known) - costOf(j, j.begin, known);
    }
    return sum;
  }

  int store(int home, int most, int level, int in, int out, int loss, int watts) {
    if (!in(most, 1, 40) || !in(level, 0, most) || !in(in, 0, 10) || !in(out, 0, 10) || !in(loss, 0, 3)
        || !in(watts, 1, 1000)) return refuse(-1);
    if (!in(home, 0, homes.size() - 1)) return refuse(-2);
    if (stores.size() == 6) return refuse(-5);
    Store s = new Store();
    s.home = home; s.most = most; s.level = level; s.in = in; s.out = out; s.loss = loss; s.watts = watts;
    stores.add(s);
    return fine(stores.size() - 1);
  }

  private boolean isStore(int store) { return in(store, 0, stores.size() - 1); }

  int level(int store, int level) {
    if (!in(level, 0, isStore(store) ? stores.get(store).most : 40)) return refuse(-1);
    if (!isStore(store)) return refuse(-2);
    int was = stores.get(store).level;
    stores.get(store).level = level;
    return fine(was);
  }

  private long bestCost;
  private int[] bestRow;

  long fill(int store, int n, int wish) {
    if (!in(n, 1, 48) || now + n - 1 > 167 || !in(wish, 0, isStore(store) ? stores.get(store).most : 40)) {
      return PlugHours.BEYOND + refuse(-1);
    }
    if (!isStore(store)) return PlugHours.BEYOND + refuse(-2);
    Store s = stores.get(store);
    bestRow = null;
    double rows = Math.pow(s.in + s.out + 1, n);
    if (rows <= 3000) tryRows(s, new int[n], 0, s.level, wish, 0);
    else forward(s, n, wish);
    if (bestRow == null) return PlugHours.BEYOND + refuse(-6);
    filledMoves = bestRow;
    filledLevels = new int[n];
    int l = s.level;
    for (int i = 0; i < n; i++) filledLevels[i] = l = Math.max(0, l + bestRow[i] - s.loss);
    fine(0);
    return bestCost;
  }

  private boolean canMove(Store s, int i, int l, int x) {
    int d = draws(s.home, now + i, null);
    if (!in(l + x, 0, s.most)) return false;
    return x == 0 || (x > 0 ? d + x * s.watts <= homes.get(s.home)[24] : -x * s.watts <= d);
  }

  private void tryRows(Store s, int[] row, int i, int l, int wish, long cost) {
    if (i == row.length) {
      if (l >= wish && (bestRow == null || cost < bestCost)) { bestCost = cost; bestRow = row.clone(); }
      return;
    }
    for (int x = -s.out; x <= s.in; x++) {
      if (!canMove(s, i, l, x)) continue;
      row[i] = x;
      tryRows(s, row, i + 1, Math.max(0, l + x - s.loss), wish, cost + (long) x * s.watts * at(now + i, now));
    }
  }

  /** Many rows: of each level that can be reached the best row so far, hour by hour, kept whole. */
  private void forward(Store s, int n, int wish) {
    int[][] rows = new int[41][];
    long[] costs = new long[41];
    rows[s.level] = new int[0];
    for (int i = 0; i < n; i++) {
      int[][] nextRows = new int[41][];
      long[] nextCosts = new long[41];
      for (int l = 0; l <= s.most; l++) {
        for (int x = -s.out; x <= s.in && rows[l] != null; x++) {
          if (!canMove(s, i, l, x)) continue;
          int to = Math.max(0, l + x - s.loss);
          long c = costs[l] + (long) x * s.watts * at(now + i, now);
          int[] row = Arrays.copyOf(rows[l], i + 1);
          row[i] = x;
          boolean better = nextRows[to] == null || c < nextCosts[to]
              || c == nextCosts[to] && Arrays.compare(row, nextRows[to]) < 0;
          if (better) { nextRows[to] = row; nextCosts[to] = c; }
        }
      }
      rows = nextRows;
      costs = nextCosts;
    }
    for (int l = wish; l <= s.most; l++) {
      if (rows[l] == null) continue;
      if (bestRow == null || costs[l] < bestCost || costs[l] == bestCost && Arrays.compare(rows[l], bestRow) < 0) {
        bestRow = rows[l];
        bestCost = costs[l];
      }
    }
  }

  int filled(int i, int what) {
    if (!in(i, 0, filledMoves.length - 1) || !in(what, 0, 1)) return -1000;
    return what == 0 ? filledMoves[i] : filledLevels[i];
  }

  int count(int what) {
    int[] states = new int[3];
    for (Job j : jobs) states[j.state]++;
    int[] all = {now, homes.size(), jobs.size(), prices.size(), rules.size(), stores.size(), tape.length(),
        states[0], states[1], states[2]};
    return in(what, 0, 9) ? all[what] : -1;
  }

  int status() { return status; }
}
