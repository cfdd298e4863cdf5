/** Counts the calls whose answer is not the one that is due. */
final class Due {
  private int wrong = 0;
  private int all = 0;

  void is(String call, long got, long want) {
    all++;
    if (got != want) {
      wrong++;
      System.out.println(call + " answered " + got + ", due is " + want);
    }
  }

  /** Types a text on the tape, up to eight bytes a call. */
  static void type(CoinNotThere x, String text) {
    for (int from = 0; from < text.length(); from += 8) {
      String part = text.substring(from, Math.min(text.length(), from + 8));
      long w = 0;
      for (int i = 0; i < part.length(); i++) w = w << 8 | part.charAt(i);
      x.type(w, part.length());
    }
  }

  static int routine(CoinNotThere x, String text) {
    type(x, text);
    return x.routine();
  }

  static int house(CoinNotThere x, String text) {
    type(x, text);
    return x.house();
  }

  /** Tells a routine that a test stands on. */
  static void tell(CoinNotThere x, String text) {
    if (routine(x, text) < 0) throw new IllegalStateException("the test's own routine is wrong: " + text);
  }

  /** Fills a house that a test stands on. */
  static void seat(CoinNotThere x, String text) {
    if (house(x, text) < 0) throw new IllegalStateException("the test's own house is wrong: " + text);
  }

  void end() {
    System.out.println(wrong == 0 ? all + " answers are as due" : wrong + " of " + all + " answers are not as due");
    if (wrong != 0) System.exit(1);
  }
}
