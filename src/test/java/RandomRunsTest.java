import java.util.Random;

/** Promises 1 to 37: runs of drawn calls, of which each must answer as SlowCoin does. The draws are the same every time. */
public final class RandomRunsTest {
  private static final int RUNS = 1500, CALLS = 512;
  private static final int[] FAR = {Integer.MIN_VALUE, Integer.MAX_VALUE, -1, -2, 16, 17, 100, 256, 65536};
  private static final int[] TELLING = {0, 0, 0, 0, 1, 1, 1, 1, 2, 3, 4, 4, 5, 6, 6, 7};

  private final Random random;
  private final CoinNotThere x = new CoinNotThere();
  private final SlowCoin y = new SlowCoin();
  /** Those that type a text are calls, too: nothing is promised behind the 512th. */
  private int calls;
  private String call;
  private int got, want;

  private RandomRunsTest(long seed) { random = new Random(seed); }

  /** A number from least to most, at times just beyond, seldom far beyond. */
  private int n(int least, int most) {
    int r = random.nextInt(300);
    if (r == 0) return FAR[random.nextInt(FAR.length)];
    if (r < 3) return least - 1;
    if (r < 6) return most + 1;
    return least + random.nextInt(most - least + 1);
  }

  /** Mostly one of two SHEETS, whose LANE is mostly its number, so that rows are filled and read. */
  private int aSheet() { return random.nextInt(12) == 0 ? n(0, 3) : random.nextInt(2); }

  private int aLane(int sheet) { return random.nextInt(12) == 0 ? n(0, 2) : sheet & 1; }

  private void is(String name, int a, int b, int... args) {
    StringBuilder s = new StringBuilder(name).append('(');
    for (int i = 0; i < args.length; i++) s.append(i == 0 ? "" : ", ").append(args[i]);
    call = s.append(')').toString();
    got = a;
    want = b;
  }

  private void two(String text) {
    for (int from = 0; from < text.length(); from += 8) {
      String part = text.substring(from, Math.min(text.length(), from + 8));
      long w = random.nextLong();
      for (int i = 0; i < part.length(); i++) w = w << 8 | part.charAt(i);
      x.type(w, part.length());
      y.type(w, part.length());
      calls++;
    }
  }

  private String bruised(String text) {
    StringBuilder s = new StringBuilder(text);
    if (random.nextInt(3) == 0) {
      for (int i = random.nextInt(4); i > 0; i--) s.insert(random.nextInt(s.length() + 1), ' ');
    }
    if (random.nextInt(4) == 0 && s.length() > 0) {
      String signs = "0123456789:;mlnjxpwc ,Z~";
      int at = random.nextInt(s.length());
      int how = random.nextInt(4);
      if (how == 0) s.deleteCharAt(at);
      if (how == 1) s.setCharAt(at, signs.charAt(random.nextInt(signs.length())));
      if (how == 2) s.insert(at, signs.charAt(random.nextInt(signs.length())));
      if (how == 3) s.setLength(at);
    }
    return s.toString();
  }

  private String aRoutine() {
    StringBuilder s = new StringBuilder();
    int clauses = 1 + random.nextInt(random.nextInt(8) == 0 ? 9 : 5);
    for (int c = 0; c < clauses; c++) {
      if (c > 0) s.append(';');
      if (random.nextInt(9) == 0) s.append("00");
      s.append(random.nextInt(random.nextInt(30) == 0 ? 20 : 16)).append(':');
      if (random.nextInt(2) == 0) s.append('m').append(random.nextInt(4)).append(1 + random.nextInt(9));
      if (random.nextInt(2) == 0) s.append('l').append(random.nextInt(4));
      if (random.nextInt(3) == 0) s.append('n').append(random.nextInt(4));
      if (random.nextInt(6) == 0) s.append('j');
      if (random.nextInt(2) == 0) s.append('x').append(random.nextInt(4)).append(1 + random.nextInt(9));
    }
    return bruised(s.toString());
  }

  private String aHouse() {
    StringBuilder s = new StringBuilder();
    int come = 1 + random.nextInt(random.nextInt(8) == 0 ? 9 : 4);
    int seat = random.nextInt(12);
    for (int c = 0; c < come; c++) {
      if (c > 0) s.append(';');
      if (random.nextInt(9) == 0) s.append('0');
      s.append(seat).append("pwcx".charAt(random.nextInt(4)));
      seat = random.nextInt(9) == 0 ? random.nextInt(14) : (seat + 1 + random.nextInt(2)) % 12;
    }
    return bruised(s.toString());
  }

  private void one() {
    calls++;
    int what = random.nextInt(52);
    if (what >= 37) what = TELLING[what - 37];
    if (what < 13) tell(what);
    else if (what < 26) ask(what);
    else rest(what);
  }

  private void tell(int what) {
    int a, b, c, d;
    switch (what) {
      case 0: a = n(0, 15); b = n(0, 1); c = n(0, 3); d = n(0, 9); is("act", x.act(a, b, c, d), y.act(a, b, c, d), a, b, c, d); break;
      case 1: a = n(0, 15); b = n(0, 2); c = n(b == 2 ? 0 : -1, b == 2 ? 1 : 3); is("cue", x.cue(a, b, c), y.cue(a, b, c), a, b, c); break;
      case 2: a = n(0, 3); is("stand", x.stand(a), y.stand(a), a); break;
      case 3: a = n(0, 4); b = n(0, a == 4 ? 10 : 9); is("habit", x.habit(a, b), y.habit(a, b), a, b); break;
      case 4: a = n(0, 11); b = n(0, 3); is("watcher", x.watcher(a, b), y.watcher(a, b), a, b); break;
      case 5: a = n(0, 7); b = n(0, 9); is("doubt", x.doubt(a, b), y.doubt(a, b), a, b); break;
      case 6: if (random.nextInt(3) == 0) { a = n(0, 7); is("leave", x.leave(a), y.leave(a), a); break; }
        two(aRoutine()); is("routine", x.routine(), y.routine()); break;
      case 7: two(aHouse()); is("house", x.house(), y.house()); break;
      case 8: a = n(0, 7); b = n(0, 2); is("told", x.told(a, b), y.told(a, b), a, b); break;
      case 9: if (random.nextInt(90) == 0) two("0:j" + " ".repeat(80));
        long w = random.nextBoolean() ? 0x2030303a6a3b2031L : random.nextLong(); a = n(1, 8);
        is("type", x.type(w, a), y.type(w, a), a); break;
      case 10: is("routine", x.routine(), y.routine()); break;
      case 11: is("house", x.house(), y.house()); break;
      default: a = n(0, 5); is("count", x.count(a), y.count(a), a); break;
    }
  }

  private void ask(int what) {
    int a, b, c, d;
    switch (what) {
      case 13: a = n(0, 4); b = n(0, 15); c = n(0, 3); d = n(1, 9); is("pull", x.pull(a, b, c, d), y.pull(a, b, c, d), a, b, c, d); break;
      case 14: a = n(0, 5); b = n(0, 15); is("heed", x.heed(a, b), y.heed(a, b), a, b); break;
      case 15: a = n(0, 11); b = n(0, 3); is("can", x.can(a, b), y.can(a, b), a, b); break;
      case 16: a = n(0, 5); b = n(0, 15); c = n(1, 9); d = n(0, 1); is("odds", x.odds(a, b, c, d), y.odds(a, b, c, d), a, b, c, d); break;
      case 17: a = n(-1, 15); b = n(1, 9); is("sees", x.sees(a, b), y.sees(a, b), a, b); break;
      case 18: a = n(0, 15); b = n(0, 1); is("quiet", x.quiet(a, b), y.quiet(a, b), a, b); break;
      case 19: a = n(0, 15); b = n(0, 3); c = b == 3 && random.nextInt(9) != 0 ? 0 : n(0, 3); d = n(0, random.nextInt(3) == 0 ? 3 : 99);
        is("cover", x.cover(a, b, c, d), y.cover(a, b, c, d), a, b, c, d); break;
      case 20: a = n(0, 4); b = n(0, 1); is("does", x.does(a, b), y.does(a, b), a, b); break;
      case 21: if (random.nextInt(4) != 0) { is("none", 0, 0); break; }
        a = n(0, random.nextInt(3) == 0 ? 999 : 150); b = n(0, 2); is("bought", x.bought(a, b), y.bought(a, b), a, b); break;
      case 22: is("stances", x.stances(), y.stances()); break;
      case 23: a = n(0, random.nextInt(9) == 0 ? 99999 : 4000); is("often", x.often(a), y.often(a), a); break;
      case 24: is("warning", x.warning(), y.warning()); break;
      default: a = n(-1, 15); if (random.nextInt(3) == 0) a = -1; is("shown", x.shown(a), y.shown(a), a); break;
    }
  }

  private void rest(int what) {
    int a, b, c, d, e;
    switch (what) {
      case 26: a = n(0, 15); b = n(0, 3); is("point", x.point(a, b), y.point(a, b), a, b); break;
      case 27: a = n(0, 1); is("fits", x.fits(a), y.fits(a), a); break;
      case 28: a = n(0, 999); b = n(0, 999); c = n(0, 9); d = n(0, 9); is("apart", x.apart(a, b, c, d), y.apart(a, b, c, d), a, b, c, d); break;
      case 29: if (random.nextInt(6) != 0) { is("none", 0, 0); break; }
        is("clear", x.clear(), y.clear()); break;
      case 30: is("image", x.image(), y.image()); break;
      case 31: if (random.nextInt(3) != 0) { is("none", 0, 0); break; }
        is("restore", x.restore(), y.restore()); break;
      case 32: a = n(0, 9); b = aSheet(); c = aLane(b); d = n(0, 5); e = n(1, 7); is("eyes", x.eyes(a, b, c, d, e), y.eyes(a, b, c, d, e), a, b, c, d, e); break;
      case 33: a = aSheet(); b = aLane(a); c = n(0, 16); is("sheet", x.sheet(a, b, c), y.sheet(a, b, c), a, b, c); break;
      case 34: if (random.nextInt(4) != 0) { is("none", 0, 0); break; }
        a = aSheet(); is("drop", x.drop(a), y.drop(a), a); break;
      case 35: a = aSheet(); b = aLane(a); c = n(0, 9); d = n(-1, 3) + (random.nextInt(5) == 0 ? 256 : 0); is("item", x.item(a, b, c, d), y.item(a, b, c, d), a, b, c, d); break;
      default: a = aSheet(); b = n(0, 9); c = random.nextInt(3) == 0 ? aSheet() : a; d = n(0, 9); e = n(0, 6); is("copy", x.copy(a, b, c, d, e), y.copy(a, b, c, d, e), a, b, c, d, e); break;
    }
  }

  public static void main(String[] args) {
    Due due = new Due();
    int runs = args.length > 1 ? Integer.parseInt(args[1]) : RUNS;
    for (int run = 0; run < runs; run++) {
      RandomRunsTest r = new RandomRunsTest(run);
      // the longest text takes 13 calls of type, and one that reads it
      for (int i = 0; r.calls < CALLS - 14; i++) {
        r.one();
        due.is("run " + run + ", call " + i + ": " + r.call, r.got, r.want);
        if (r.got != r.want) break;
      }
    }
    due.end();
  }
}
