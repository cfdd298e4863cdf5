import java.util.IdentityHashMap;
import java.util.List;
import java.util.Map;

/** What tests of boundary cases stand on: what is just inside a range, what is refused, and that a refusal changes nothing. */
final class Edges {
  static final int BAD = -1, NOT = -2, FULL = -3, NONE = -4, NULL = -11, CAST = -12, INDEX = -13, SIZE = -14, FAR = -100001;
  static final int LEAST = Integer.MIN_VALUE, MOST = Integer.MAX_VALUE;

  interface Call { int on(CoinNotThere x); }
  interface Row { int on(CoinNotThere x, int... a); }

  static final Digest.Past NEW = x -> { };
  static final Digest.Past RICH = Edges::rich;
  static final Digest.Past CROWDED = Edges::crowd;

  private final Due due = new Due();
  private final Map<Digest.Past, List<Integer>> digests = new IdentityHashMap<>();

  void is(String of, long got, long want) { due.is(of, got, want); }

  void end() { due.end(); }

  private List<Integer> digest(Digest.Past past) { return digests.computeIfAbsent(past, Digest::of); }

  /** What a call answers behind a past. */
  void answers(String of, Digest.Past past, Call call, int want) {
    CoinNotThere x = new CoinNotThere();
    past.of(x);
    due.is(of, call.on(x), want);
  }

  /** A call answers so behind a past, and all is then as it would be without it. */
  void changesNothing(String of, Digest.Past past, Call call, int want) {
    answers(of, past, call, want);
    alike(of + ": what changed", past, x -> { past.of(x); call.on(x); });
  }

  /** Two pasts after which no answer differs; the first of those that do is told by its place. */
  void alike(String of, Digest.Past past, Digest.Past other) {
    List<Integer> a = digest(past), b = Digest.of(other);
    int at = 0;
    while (at < a.size() && at < b.size() && a.get(at).equals(b.get(at))) at++;
    due.is(of + " (place in the digest)", a.equals(b) ? -1 : at, -1);
  }

  /** Two pasts after which some answer differs: else the digest would be blind to what a test stands on. */
  void unlike(String of, Digest.Past past, Digest.Past other) {
    due.is(of + " is told apart", digest(past).equals(Digest.of(other)) ? 0 : 1, 1);
  }

  /**
   * An argument's range, all others being as in a row that is taken: each number in it is not refused so, the numbers next to
   * it and those farthest off are, and change nothing.
   */
  void range(String of, Digest.Past past, Row call, int[] row, int arg, int least, int most, int refusal) {
    for (int v = least; v <= most; v += most - least > 40 && v > least && v < most - 1 ? Math.min(97, most - 1 - v) : 1) {
      int[] r = row.clone();
      r[arg] = v;
      CoinNotThere x = new CoinNotThere();
      past.of(x);
      due.is(of + ", argument " + arg + " of " + v + " is refused", call.on(x, r) == refusal ? 1 : 0, 0);
    }
    for (int v : new int[] {least - 1, most + 1, LEAST, MOST}) {
      int[] r = row.clone();
      r[arg] = v;
      changesNothing(of + ", argument " + arg + " of " + v, past, x -> call.on(x, r), refusal);
    }
  }

  /** One of each kind of thing, an IMAGE that is not as all is now, a half full TAPE, SHEETS of which one is missing. */
  private static void rich(CoinNotThere x) {
    Due.seat(x, "1p;6w;11c;0x;4w;7p");
    x.doubt(1, 7);
    x.doubt(4, 0);
    Due.tell(x, "0:m16l1n1x04;3:jx19;7:m25l2n3x38;9:l0;15:m39l0n2jx21");
    x.stand(2);
    int[] laws = {6, 8, 1, 5, 1};
    for (int law = 0; law < 5; law++) x.habit(law, laws[law]);
    x.cover(0, 0, 2, 40);
    x.cover(3, 1, 0, 7);
    x.cover(7, 3, 0, 99);
    x.point(0, 1);
    x.point(7, 2);
    x.image();
    x.leave(2);
    x.doubt(1, 5);
    Due.tell(x, "0:x12;4:l3n0x35;15:");
    x.stand(3);
    x.habit(4, 2);
    x.cover(15, 2, 3, 0);
    x.point(15, 3);
    x.sheet(0, 0, 5);
    for (int i = 0; i < 5; i++) x.item(0, 0, i, i - 1);
    x.sheet(1, 1, 16);
    for (int i = 0; i < 16; i++) x.item(1, 1, i, i % 4);
    x.item(1, 1, 5, 4);
    x.sheet(2, 2, 0);
    Due.type(x, "5:m11x22");
  }

  /** The like, with 8 WATCHERS, 8 COVERS, 24 POINTS and a TAPE of 100 bytes. */
  private static void crowd(CoinNotThere x) {
    rich(x);
    more(x);
  }

  /** What CROWDED has more than RICH. */
  static void more(CoinNotThere x) {
    for (int seat = 8; seat < 11; seat++) x.watcher(seat, seat - 8);
    for (int c = 4; c < 8; c++) x.cover(c, (c + 1) % 4, 0, 11 * c);
    for (int p = 3; p < 24; p++) x.point(p % 16, p % 3);
    Due.type(x, " ".repeat(92));
    x.sheet(3, 2, 16);
  }
}
