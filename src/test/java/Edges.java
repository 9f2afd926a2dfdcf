import java.util.function.ToLongFunction;

/** What the tests of boundary cases share: a range tried at and beyond both ends, a call that is refused, a scene. */
final class Edges {
  private final Check check;

  Edges(Check check) { this.check = check; }

  /** A call with one number left open, on an object of its own. */
  interface Call {
    long with(PlugHours x, int number);
  }

  /** An object made ready for a call. */
  interface Scene {
    PlugHours make();
  }

  /** Only numbers from low to high are taken: those beyond are answered by what refuses them, low and high are not. */
  void range(String what, Scene scene, Call call, int low, int high, long refused) {
    int[] outside = {low - 1, high + 1, Integer.MIN_VALUE, Integer.MAX_VALUE};
    for (int number : outside) check.due(what + ": " + number, call.with(scene.make(), number), refused);
    int[] inside = {low, high};
    for (int number : inside) {
      long got = call.with(scene.make(), number);
      check.isTrue(what + ": " + number + " is within, but answered " + got, got != refused);
    }
  }

  /** The call answers so and status tells the code (0 for calls that have none), but nothing else has changed. */
  void refused(String what, Scene scene, ToLongFunction<PlugHours> call, long answer, int code) {
    PlugHours x = scene.make();
    String before = look(x);
    check.due(what, call.applyAsLong(x), answer);
    check.due(what + ", its status", x.status(), code);
    String after = look(x);
    check.isTrue(what + ", and all stays:\n" + before + "\n" + after, before.equals(after));
  }

  /** All that calls can tell of a small object; about 200 calls, so that two looks are within its 512. */
  static String look(PlugHours x) {
    StringBuilder s = new StringBuilder();
    for (int what = 0; what < 10; what++) s.append(x.count(what)).append(' ');
    s.append("| fault ").append(x.fault());
    for (int job = 0; job < 6; job++) {
      s.append(" | job").append(job);
      for (int what = 0; what < 6; what++) s.append(' ').append(x.of(job, what));
      s.append(" cost ").append(x.cost(job, 0)).append(' ').append(x.cost(job, 1000)).append(" may");
      for (int hour = 0; hour < 6; hour++) s.append(' ').append(x.may(job, hour));
    }
    for (int hour = 0; hour < 6; hour++) {
      s.append(" | hour").append(hour).append(' ').append(x.at(hour, 0)).append(' ').append(x.at(hour, 1000));
      s.append(' ').append(x.load(0, hour)).append(' ').append(x.load(1, hour));
    }
    s.append(" | saved ").append(x.saved(0)).append(' ').append(x.saved(1000)).append(" | filled");
    for (int i = 0; i < 5; i++) s.append(' ').append(x.filled(i, 0)).append(' ').append(x.filled(i, 1));
    int cable = x.cable(0);
    x.cable(cable);
    s.append(" | cable ").append(cable).append(" | levels");
    for (int store = 0; store < x.count(5); store++) {
      int level = x.level(store, 0);
      x.level(store, level);
      s.append(' ').append(level);
    }
    return s.toString();
  }

  static PlugHours home(int fuse) {
    PlugHours x = new PlugHours();
    x.home(fuse);
    return x;
  }

  /** In the four calls that even the last hour is away. */
  static void goTo(PlugHours x, int hour) {
    for (int i = 0; i < 4 && x.count(0) < hour; i++) x.go(Math.min(48, hour - x.count(0)));
  }

  /** Two homes; a job that is DONE, two PLANNED, one OPEN; a store and its filling; rules, and a tape; NOW is 1. */
  static PlugHours street() {
    PlugHours x = new PlugHours();
    x.home(1000);
    x.home(2000);
    x.base(0, 2, 300);
    x.base(1, 3, 100);
    x.cable(2500);
    x.price(0, 40, 0);
    x.price(2, 30, 0);
    x.price(2, 70, 5);
    x.job(0, 0, 4, 2, 400, 200, 0, 0);
    x.job(1, 0, 4, 1, 900, 0, 0, 0);
    x.job(1, 1, 4, 1, 800, 0, 0, 0);
    x.job(0, 2, 5, 3, 500, 0, 100, 0);
    x.store(1, 8, 3, 2, 2, 1, 50);
    Check.rules(x, "quiet 0 from 5 to 5; job 1 before 2");
    x.put(0, 0);
    x.put(1, 2);
    x.put(2, 3);
    x.go(1);
    x.fill(0, 3, 2);
    Check.tape(x, "dear 5");
    return x;
  }
}
