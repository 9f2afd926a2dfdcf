/** Counts answers that are not as due and prints them. */
final class Check {
  private int wrong = 0;
  private int asked = 0;

  void due(String what, long got, long want) {
    asked++;
    if (got != want) {
      wrong++;
      System.out.println(what + " answered " + got + ", due is " + want);
    }
  }

  void isTrue(String what, boolean held) {
    asked++;
    if (!held) {
      wrong++;
      System.out.println(what + " does not hold");
    }
  }

  /** Prints the count and ends the program, with code 1 if something was wrong. */
  void end(String name) {
    System.out.println(name + ": " + asked + " answers, " + wrong + " not as due");
    if (wrong != 0 || asked == 0) {
      System.exit(1);
    }
  }

  /** Puts a text on the tape, as blocks of twenty bytes cut to its length. */
  static void tape(PlugHours x, String text) {
    int from = x.count(6);
    for (int i = 0; i < text.length(); i += 20) {
      x.feed(four(text, i), four(text, i + 4), four(text, i + 8), four(text, i + 12), four(text, i + 16));
    }
    x.end(from + text.length());
  }

  static int four(String text, int from) {
    int sum = 0;
    for (int i = from; i < from + 4; i++) {
      sum = sum << 8 | (i < text.length() ? text.charAt(i) & 255 : 32);
    }
    return sum;
  }

  static int rules(PlugHours x, String text) {
    tape(x, text);
    return x.rules();
  }
}
