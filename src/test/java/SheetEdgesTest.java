/** Promises 33 to 37 at their boundaries: sheets that may be missing. */
public final class SheetEdgesTest {
  private static final Edges edges = new Edges();
  private static final int BAD = -1, NOT = -2, FULL = -3, NULL = -11, CAST = -12, INDEX = -13, SIZE = -14;
  private static final int LEAST = Integer.MIN_VALUE, MOST = Integer.MAX_VALUE;
  private static final Digest.Past NEW = Edges.NEW, RICH = Edges.RICH, CROWDED = Edges.CROWDED;

  public static void main(String[] args) {
    p33Ranges();
    p33BeyondBeat15();
    p33Missing();
    p33AnotherLane();
    p33Index();
    p33NotAsTold();
    p33Blinks();
    p33BeatsFromOneOn();
    p33NotAllHaveRoom();
    p33WhichIsAhead();
    p34Ranges();
    p34SizeBelowNone();
    p34ANewRow();
    p35Drop();
    p36Ranges();
    p36Refused();
    p36Index();
    p36LowestBits();
    p37Ranges();
    p37Missing();
    p37UnlikeLanes();
    p37Index();
    p37NoItemIsTaken();
    p37WhichIsAhead();
    p37AsIfAllWereTakenAhead();
    p37AllAndNone();
    edges.end();
  }

  /** A row with items on a SHEET. */
  private static void fill(CoinNotThere x, int sheet, int lane, int... items) {
    x.sheet(sheet, lane, items.length);
    for (int i = 0; i < items.length; i++) x.item(sheet, lane, i, items[i]);
  }

  private static Digest.Past with(int sheet, int lane, int... items) { return x -> fill(x, sheet, lane, items); }

  /** What a SHEET holds behind a past: PLACES, -1 for a blink, NOT for all else. */
  private static void holds(String of, Digest.Past past, int sheet, int lane, int... items) {
    CoinNotThere x = new CoinNotThere();
    past.of(x);
    x.routine();
    Due.tell(x, "0:m09;1:m19;2:m29;3:m39");
    for (int i = 0; i < items.length; i++) edges.is(of + ", item " + i, Digest.item(x, sheet, lane, i), items[i]);
    edges.is(of + ", how many", x.drop(sheet), items.length);
  }

  private static final int[] SIXTEEN = {0, 1, 2, 3, 0, 1, 2, 3, 0, 1, 2, 3, 0, 1, 2, 3};

  /** "BEATS 0 .. 15", "sheets 0 .. 3", LANES 0 .. 2, "n PLACES (1 .. 16 ..)". */
  private static void p33Ranges() {
    Edges.Row eyes = (x, a) -> x.eyes(a[0], a[1], a[2], a[3], a[4]);
    Digest.Past past = x -> { RICH.of(x); fill(x, 1, 1, SIXTEEN); };
    edges.range("eyes", past, eyes, new int[] {0, 1, 1, 0, 1}, 0, 0, 15, BAD);
    edges.range("eyes", past, eyes, new int[] {0, 1, 1, 0, 1}, 1, 0, 3, BAD);
    edges.range("eyes", past, eyes, new int[] {0, 1, 1, 0, 1}, 2, 0, 2, BAD);
    edges.range("eyes", past, eyes, new int[] {0, 1, 1, 0, 1}, 4, 1, 16, BAD);
  }

  /** "BAD: also beyond BEAT 15": the last of n BEATS is 15 at most. */
  private static void p33BeyondBeat15() {
    Digest.Past past = with(0, 2, SIXTEEN);
    for (int beat = 0; beat < 16; beat++) {
      int b = beat;
      edges.answers("eyes: up to BEAT 15", past, x -> x.eyes(b, 0, 2, 0, 16 - b), 16 - b);
      edges.changesNothing("eyes: up to BEAT 16", past, x -> x.eyes(b, 0, 2, 0, 17 - b), BAD);
      edges.changesNothing("eyes: far beyond", past, x -> x.eyes(b, 0, 2, 0, MOST), BAD);
    }
    edges.changesNothing("eyes: BEAT 15, 16 items", past, x -> x.eyes(15, 0, 2, 0, 16), BAD);
  }

  /** "NULL". */
  private static void p33Missing() {
    for (int sheet = 0; sheet < 4; sheet++) {
      int s = sheet;
      Digest.Past others = x -> { for (int t = 0; t < 4; t++) if (t != s) fill(x, t, 0, SIXTEEN); };
      for (int lane = 0; lane < 3; lane++) {
        int l = lane;
        edges.changesNothing("eyes: SHEET " + s + " is missing", others, x -> x.eyes(0, s, l, 0, 1), NULL);
      }
      edges.changesNothing("eyes: it was dropped", x -> { others.of(x); fill(x, s, 0, 1); x.drop(s); }, x -> x.eyes(0, s, 0, 0, 1), NULL);
    }
  }

  /** "CAST -12 (of SHEETS another LANE ..)". */
  private static void p33AnotherLane() {
    for (int lane = 0; lane < 3; lane++) {
      for (int as = 0; as < 3; as++) {
        int l = as;
        if (lane == as) edges.answers("eyes: its LANE", with(2, lane, 3), x -> x.eyes(0, 2, l, 0, 1), 1);
        else edges.changesNothing("eyes: LANE " + lane + " as " + as, with(2, lane, 3), x -> x.eyes(0, 2, l, 0, 1), CAST);
      }
    }
  }

  /** "INDEX": an item below 0 or beyond the last one. */
  private static void p33Index() {
    for (int many = 0; many <= 16; many++) {
      int[] items = new int[many];
      int size = many;
      Digest.Past past = with(3, 1, items);
      if (many > 0) edges.answers("eyes: all", past, x -> x.eyes(0, 3, 1, 0, size), many);
      if (many > 0) edges.answers("eyes: the last", past, x -> x.eyes(0, 3, 1, size - 1, 1), 1);
      if (many < 16) edges.changesNothing("eyes: one more than all", past, x -> x.eyes(0, 3, 1, 0, size + 1), INDEX);
      edges.changesNothing("eyes: behind the last", past, x -> x.eyes(0, 3, 1, size, 1), INDEX);
      for (int i : new int[] {-1, LEAST, MOST, MOST - 1, size + 1, 16}) {
        edges.changesNothing("eyes: item " + i + " of " + many, past, x -> x.eyes(0, 3, 1, i, 1), INDEX);
        edges.changesNothing("eyes: 16 items from " + i + " on of " + many, past, x -> x.eyes(0, 3, 1, i, 16), INDEX);
      }
      if (many > 1) edges.changesNothing("eyes: one beyond the last", past, x -> x.eyes(0, 3, 1, size - 1, 2), INDEX);
      edges.changesNothing("eyes: ahead of the first and on", past, x -> x.eyes(0, 3, 1, -1, 2), INDEX);
    }
  }

  /** "NOT: one is not as told": no PLACE and no blink; the first, one between, the last; those not taken count not. */
  private static void p33NotAsTold() {
    for (int wrong : new int[] {-2, 4, 100, -128, 127}) {
      for (int lane = 0; lane < 3; lane++) {
        for (int at = 1; at < 4; at++) {
          int[] items = {0, 1, -1, 3, 2};
          items[at] = wrong;
          int l = lane, i = at;
          Digest.Past past = with(0, lane, items);
          edges.changesNothing("eyes: " + wrong + " at " + at, past, x -> x.eyes(0, 0, l, 1, 3), NOT);
          edges.changesNothing("eyes: " + wrong + " alone", past, x -> x.eyes(0, 0, l, i, 1), NOT);
        }
        int l = lane;
        edges.answers("eyes: " + wrong + " ahead and behind", with(0, lane, wrong, 0, 1, 2, wrong), x -> x.eyes(0, 0, l, 1, 3), 3);
      }
    }
    for (int wrong : new int[] {LEAST, MOST, 256, 65536, -65536}) {
      edges.changesNothing("eyes: an int of " + wrong, with(0, 2, wrong), x -> x.eyes(0, 0, 2, 0, 1), NOT);
    }
  }

  /** "(.. -1: he blinked, none)". */
  private static void p33Blinks() {
    int[] blinks = new int[16];
    java.util.Arrays.fill(blinks, -1);
    for (int lane = 0; lane < 3; lane++) {
      int l = lane;
      edges.changesNothing("eyes: one blink", with(1, lane, -1), x -> x.eyes(15, 1, l, 0, 1), 0);
      edges.changesNothing("eyes: blinks alone", with(1, lane, blinks), x -> x.eyes(0, 1, l, 0, 16), 0);
      edges.answers("eyes: all but blinks", with(1, lane, -1, 0, -1, 3, -1), x -> x.eyes(0, 1, l, 0, 5), 2);
    }
    edges.changesNothing("eyes: a blink where 24 are", x -> { CROWDED.of(x); fill(x, 0, 0, -1); }, x -> x.eyes(0, 0, 0, 0, 1), 0);
  }

  /** "of BEATS from one on": each item its BEAT, a blink as well. */
  private static void p33BeatsFromOneOn() {
    edges.alike("eyes: as single POINTS", x -> {
      fill(x, 0, 0, 9, 0, -1, 3, 1, -1, 2);
      x.point(10, 0);
      x.point(12, 3);
      x.point(13, 1);
      x.point(15, 2);
    }, x -> {
      fill(x, 0, 0, 9, 0, -1, 3, 1, -1, 2);
      x.eyes(10, 0, 0, 1, 6);
    });
    edges.alike("eyes: 16 of them", x -> {
      fill(x, 3, 2, SIXTEEN);
      for (int b = 0; b < 16; b++) x.point(b, b % 4);
    }, x -> {
      fill(x, 3, 2, SIXTEEN);
      x.eyes(0, 3, 2, 0, 16);
    });
  }

  /** "FULL: not all have room (none comes)": 24 have, 25 have not; a blink needs none. */
  private static void p33NotAllHaveRoom() {
    for (int there = 8; there <= 24; there++) {
      int many = there;
      Digest.Past past = x -> { fill(x, 0, 0, SIXTEEN); for (int p = 0; p < many; p++) x.point(p % 16, 1); };
      if (there < 24) edges.answers("eyes: just 24", past, x -> x.eyes(0, 0, 0, 0, 24 - many), 24 - there);
      if (there > 8) edges.changesNothing("eyes: 25", past, x -> x.eyes(0, 0, 0, 0, 25 - many), FULL);
    }
    Digest.Past room = x -> { fill(x, 0, 0, 0, -1, 1, -1, 2); for (int p = 0; p < 22; p++) x.point(0, 0); };
    edges.answers("eyes: 2 and 2 blinks have room", room, x -> x.eyes(0, 0, 0, 0, 4), 2);
    edges.changesNothing("eyes: 3 and 2 blinks have not", room, x -> x.eyes(0, 0, 0, 0, 5), FULL);
  }

  /** "BAD ahead of all others, then the first that a call names": NULL, CAST, INDEX, NOT, FULL. */
  private static void p33WhichIsAhead() {
    Digest.Past past = x -> { CROWDED.of(x); fill(x, 0, 0, 4, 0); x.drop(2); };
    edges.changesNothing("eyes: FULL", past, x -> x.eyes(0, 0, 0, 1, 1), FULL);
    edges.changesNothing("eyes: NOT, FULL", past, x -> x.eyes(0, 0, 0, 0, 2), NOT);
    edges.changesNothing("eyes: INDEX, NOT, FULL", past, x -> x.eyes(0, 0, 0, 0, 3), INDEX);
    edges.changesNothing("eyes: INDEX, FULL", past, x -> x.eyes(0, 0, 0, 1, 2), INDEX);
    edges.changesNothing("eyes: CAST, INDEX, NOT, FULL", past, x -> x.eyes(0, 0, 1, 0, 3), CAST);
    edges.changesNothing("eyes: CAST, INDEX", past, x -> x.eyes(0, 0, 2, -1, 1), CAST);
    edges.changesNothing("eyes: CAST, NOT", past, x -> x.eyes(0, 0, 2, 0, 1), CAST);
    edges.changesNothing("eyes: CAST, FULL", past, x -> x.eyes(0, 0, 2, 1, 1), CAST);
    edges.changesNothing("eyes: NULL, INDEX, FULL", past, x -> x.eyes(0, 2, 0, -1, 1), NULL);
    edges.changesNothing("eyes: NULL, FULL", past, x -> x.eyes(0, 2, 0, 0, 1), NULL);
    int[][] wrong = {{-1, 1}, {16, 1}, {0, 0}, {0, 17}, {15, 2}};
    for (int[] w : wrong) {
      edges.changesNothing("eyes: BAD, NULL", past, x -> x.eyes(w[0], 2, 0, 0, w[1]), BAD);
      edges.changesNothing("eyes: BAD, CAST", past, x -> x.eyes(w[0], 0, 1, 0, w[1]), BAD);
      edges.changesNothing("eyes: BAD, INDEX", past, x -> x.eyes(w[0], 0, 0, -1, w[1]), BAD);
      edges.changesNothing("eyes: BAD, NOT", past, x -> x.eyes(w[0], 0, 0, 0, w[1]), BAD);
      edges.changesNothing("eyes: BAD, FULL", past, x -> x.eyes(w[0], 0, 0, 1, w[1]), BAD);
    }
    for (int lane : new int[] {-1, 3}) {
      edges.changesNothing("eyes: no LANE, NULL", past, x -> x.eyes(0, 2, lane, 0, 1), BAD);
      edges.changesNothing("eyes: no LANE, INDEX", past, x -> x.eyes(0, 0, lane, -1, 1), BAD);
    }
  }

  /** "sheets 0 .. 3", "a LANE: 0 bytes, 1 shorts, 2 ints", "0 to 16 items", "BAD: also n above 16". */
  private static void p34Ranges() {
    Edges.Row sheet = (x, a) -> x.sheet(a[0], a[1], a[2]);
    edges.range("sheet", CROWDED, sheet, new int[] {1, 1, 4}, 0, 0, 3, BAD);
    edges.range("sheet", CROWDED, sheet, new int[] {1, 1, 4}, 1, 0, 2, BAD);
    for (int n = 0; n <= 16; n++) {
      int many = n;
      for (int lane = 0; lane < 3; lane++) {
        int l = lane;
        edges.answers("sheet: n items", NEW, x -> x.sheet(3, l, many), n);
        holds("sheet: n items", x -> x.sheet(3, l, many), 3, lane, new int[n]);
      }
    }
    for (int n : new int[] {17, 18, 256, 65536, MOST}) edges.changesNothing("sheet: n of " + n, CROWDED, x -> x.sheet(1, 1, n), BAD);
  }

  /** "SIZE: n below 0", behind BAD. */
  private static void p34SizeBelowNone() {
    for (int n : new int[] {-1, -16, -17, LEAST}) {
      for (int sheet = 0; sheet < 4; sheet++) {
        int s = sheet;
        edges.changesNothing("sheet: n of " + n + " on " + s, RICH, x -> x.sheet(s, 0, n), SIZE);
      }
      for (int wrong : new int[] {-1, 4}) edges.changesNothing("sheet: no SHEET, n below 0", RICH, x -> x.sheet(wrong, 0, n), BAD);
      for (int wrong : new int[] {-1, 3}) edges.changesNothing("sheet: no LANE, n below 0", RICH, x -> x.sheet(0, wrong, n), BAD);
    }
  }

  /** "A SHEET holds a new row": whatever it held, its items are 0, and no other SHEET changes. */
  private static void p34ANewRow() {
    int[] threes = new int[16];
    java.util.Arrays.fill(threes, 3);
    for (int lane = 0; lane < 3; lane++) {
      for (int n : new int[] {0, 1, 5, 16}) {
        int l = lane;
        Digest.Past past = x -> { for (int s = 0; s < 4; s++) fill(x, s, 0, threes); x.sheet(1, l, n); };
        holds("sheet: a new row", past, 1, lane, new int[n]);
        holds("sheet: the one ahead", past, 0, 0, threes);
        holds("sheet: the one behind", past, 2, 0, threes);
        holds("sheet: longer again", x -> { past.of(x); x.sheet(1, 0, 2); x.sheet(1, 2, 16); }, 1, 2, new int[16]);
        holds("sheet: behind a drop", x -> { past.of(x); x.drop(2); x.sheet(2, 0, 16); }, 2, 0, new int[16]);
      }
    }
  }

  /** "A SHEET holds nothing: how many items it had", "BAD; NULL". */
  private static void p35Drop() {
    edges.range("drop", CROWDED, (x, a) -> x.drop(a[0]), new int[] {0}, 0, 0, 3, BAD);
    for (int sheet = 0; sheet < 4; sheet++) {
      int s = sheet;
      edges.changesNothing("drop: it held nothing", NEW, x -> x.drop(s), NULL);
      for (int n = 0; n <= 16; n++) {
        int many = n;
        edges.answers("drop: how many", x -> { x.sheet(s, 1, many); }, x -> x.drop(s), n);
        edges.alike("drop: as at first", NEW, x -> { x.sheet(s, 1, many); x.drop(s); });
      }
      edges.changesNothing("drop: twice", x -> { CROWDED.of(x); x.drop(s); }, x -> x.drop(s), NULL);
    }
  }

  /** "sheets 0 .. 3", LANES 0 .. 2; v may be any number. */
  private static void p36Ranges() {
    Edges.Row item = (x, a) -> x.item(a[0], a[1], a[2], a[3]);
    edges.range("item", CROWDED, item, new int[] {1, 1, 0, 2}, 0, 0, 3, BAD);
    edges.range("item", CROWDED, item, new int[] {1, 1, 0, 2}, 1, 0, 2, BAD);
    for (int v : new int[] {LEAST, -1, 0, 1, 255, 256, 65535, 65536, MOST}) {
      for (int lane = 0; lane < 3; lane++) {
        int l = lane;
        edges.answers("item: any v", with(0, lane, 1), x -> x.item(0, l, 0, v), 1);
      }
    }
  }

  /** "BAD; NULL; CAST; INDEX", in this order. */
  private static void p36Refused() {
    for (int i : new int[] {0, -1, 99}) edges.changesNothing("item: NULL, i of " + i, RICH, x -> x.item(3, 0, i, 1), NULL);
    for (int lane = 0; lane < 3; lane++) {
      for (int as = 0; as < 3; as++) {
        int l = as;
        if (as == lane) continue;
        for (int i : new int[] {0, -1, 1, 99}) edges.changesNothing("item: CAST, i of " + i, with(0, lane, 3), x -> x.item(0, l, i, 1), CAST);
      }
    }
    for (int lane : new int[] {-1, 3}) {
      edges.changesNothing("item: no LANE, NULL", RICH, x -> x.item(3, lane, 0, 1), BAD);
      edges.changesNothing("item: no LANE, CAST", RICH, x -> x.item(0, lane, 0, 1), BAD);
      edges.changesNothing("item: no LANE, INDEX", RICH, x -> x.item(0, lane, -1, 1), BAD);
    }
    for (int sheet : new int[] {-1, 4}) edges.changesNothing("item: no SHEET, INDEX", RICH, x -> x.item(sheet, 0, -1, 1), BAD);
  }

  /** "INDEX": item i is 0 to how many less 1. */
  private static void p36Index() {
    for (int n = 0; n <= 16; n++) {
      int many = n;
      Digest.Past past = with(2, 2, new int[n]);
      if (n > 0) edges.answers("item: the first", past, x -> x.item(2, 2, 0, 1), 1);
      if (n > 0) edges.answers("item: the last", past, x -> x.item(2, 2, many - 1, 1), 1);
      for (int i : new int[] {-1, n, n + 1, 16, LEAST, MOST}) {
        edges.changesNothing("item: " + i + " of " + n, past, x -> x.item(2, 2, i, 1), INDEX);
      }
    }
    for (int at = 0; at < 16; at++) {
      int i = at;
      int[] want = new int[16];
      want[at] = 3;
      holds("item: that one alone", x -> { x.sheet(1, 0, 16); x.item(1, 0, i, 3); }, 1, 0, want);
    }
  }

  /** "becomes v, its lowest bits": 8 of a byte, 16 of a short, all of an int, with a sign. */
  private static void p36LowestBits() {
    int[] v = {0, 3, 4, -1, -2, 127, 128, 255, 256, 257, 259, 260, -253, -257, 32767, 32768, 65535, 65536, 65539, 65540, 65791, -65533,
        0x01000002, 0x7fffffff, 0x80000000, 0x80000001, 0xffff0003, 0xffffff03, 0x0000ffff, 0x00ffffff};
    int[] bytes = {0, 3, NOT, -1, NOT, NOT, NOT, -1, 0, 1, 3, NOT, 3, -1, -1, 0, -1, 0, 3, NOT, -1, 3,
        2, -1, 0, 1, 3, 3, -1, -1};
    int[] shorts = {0, 3, NOT, -1, NOT, NOT, NOT, NOT, NOT, NOT, NOT, NOT, NOT, NOT, NOT, NOT, -1, 0, 3, NOT, NOT, 3,
        2, -1, 0, 1, 3, NOT, -1, -1};
    int[] ints = {0, 3, NOT, -1, NOT, NOT, NOT, NOT, NOT, NOT, NOT, NOT, NOT, NOT, NOT, NOT, NOT, NOT, NOT, NOT, NOT, NOT,
        NOT, NOT, NOT, NOT, NOT, NOT, NOT, NOT};
    for (int t = 0; t < v.length; t++) {
      int value = v[t];
      holds("item: a byte of " + value, x -> fill(x, 0, 0, 1, value, 2), 0, 0, 1, bytes[t], 2);
      holds("item: a short of " + value, x -> fill(x, 0, 1, 1, value, 2), 0, 1, 1, shorts[t], 2);
      holds("item: an int of " + value, x -> fill(x, 0, 2, 1, value, 2), 0, 2, 1, ints[t], 2);
    }
  }

  /** "sheets 0 .. 3", both; the same one is fine. */
  private static void p37Ranges() {
    Edges.Row copy = (x, a) -> x.copy(a[0], a[1], a[2], a[3], a[4]);
    edges.range("copy", CROWDED, copy, new int[] {1, 0, 1, 0, 1}, 0, 0, 3, BAD);
    edges.range("copy", CROWDED, copy, new int[] {1, 0, 1, 0, 1}, 2, 0, 3, BAD);
    for (int s = 0; s < 4; s++) {
      int sheet = s;
      edges.changesNothing("copy: onto itself", with(s, 0, 1, 2, 3), x -> x.copy(sheet, 0, sheet, 0, 3), 3);
    }
  }

  /** "NULL (either)". */
  private static void p37Missing() {
    for (int a = 0; a < 4; a++) {
      for (int b = 0; b < 4; b++) {
        int from = a, to = b;
        edges.changesNothing("copy: both are missing", NEW, x -> x.copy(from, 0, to, 0, 0), NULL);
        if (a == b) continue;
        edges.changesNothing("copy: to a missing one", with(a, 0, 1), x -> x.copy(from, 0, to, 0, 1), NULL);
        edges.changesNothing("copy: from a missing one", with(b, 0, 1), x -> x.copy(from, 0, to, 0, 1), NULL);
      }
    }
  }

  /** "CAST: of unlike LANES", though no item is taken. */
  private static void p37UnlikeLanes() {
    for (int a = 0; a < 3; a++) {
      for (int b = 0; b < 3; b++) {
        int from = a, to = b;
        Digest.Past past = x -> { fill(x, 0, from, 1, 2); fill(x, 1, to, 3, 3); };
        if (a == b) {
          holds("copy: of like LANES", x -> { past.of(x); x.copy(0, 0, 1, 0, 2); }, 1, b, 1, 2);
        } else {
          edges.changesNothing("copy: LANE " + a + " to " + b, past, x -> x.copy(0, 0, 1, 0, 2), CAST);
          edges.changesNothing("copy: LANE " + a + " to " + b + ", none", past, x -> x.copy(0, 0, 1, 0, 0), CAST);
        }
      }
    }
  }

  /** "INDEX (n below 0, too)": by either SHEET's items, without a sum that wraps around. */
  private static void p37Index() {
    Digest.Past past = x -> { fill(x, 0, 1, 0, 1, 2, 3, 0); fill(x, 1, 1, 3, 3, 3); };
    int[][] taken = {{0, 0, 3}, {2, 0, 3}, {0, 2, 1}, {4, 2, 1}, {4, 0, 1}, {3, 1, 2}, {0, 0, 1}};
    for (int[] t : taken) edges.answers("copy: just inside", past, x -> x.copy(0, t[0], 1, t[1], t[2]), t[2]);
    int[][] refused = {{-1, 0, 1}, {-1, 0, 3}, {0, -1, 1}, {0, -1, 3}, {0, 0, -1}, {0, 0, 4}, {3, 0, 3}, {0, 1, 3}, {5, 0, 1}, {0, 3, 1},
        {6, 0, 1}, {0, 4, 1}, {4, 0, 2}, {0, 2, 2}, {LEAST, 0, 1}, {MOST, 0, 1}, {0, LEAST, 1}, {0, MOST, 1}, {0, 0, LEAST}, {0, 0, MOST},
        {1, 0, MOST}, {0, 1, MOST}, {MOST, 0, MOST}, {0, MOST, MOST}, {MOST, MOST, 2}, {LEAST, LEAST, LEAST}, {5, 3, -1}, {LEAST, 0, MOST},
        {0, 0, -5}, {5, 3, -3}, {0, LEAST, LEAST}, {MOST, 0, -MOST}, {0, MOST, -MOST}};
    for (int[] r : refused) {
      edges.changesNothing("copy: " + r[0] + ", " + r[1] + ", " + r[2], past, x -> x.copy(0, r[0], 1, r[1], r[2]), INDEX);
    }
    edges.changesNothing("copy: within one", past, x -> x.copy(0, 0, 0, 1, 5), INDEX);
    edges.changesNothing("copy: within one", past, x -> x.copy(0, 1, 0, 0, 5), INDEX);
    edges.changesNothing("copy: from the shorter", past, x -> x.copy(1, 0, 0, 0, 4), INDEX);
  }

  /** "INDEX also where no item is taken, if i, j is below 0, or above how many there are". */
  private static void p37NoItemIsTaken() {
    Digest.Past past = x -> { fill(x, 0, 0, 1, 2); fill(x, 1, 0, 3); x.sheet(2, 0, 0); };
    for (int i = 0; i <= 2; i++) {
      for (int j = 0; j <= 1; j++) {
        int a = i, b = j;
        edges.changesNothing("copy: none from " + i + " to " + j, past, x -> x.copy(0, a, 1, b, 0), 0);
      }
    }
    edges.changesNothing("copy: none of none", past, x -> x.copy(2, 0, 2, 0, 0), 0);
    edges.changesNothing("copy: none, i below 0", past, x -> x.copy(0, -1, 1, 0, 0), INDEX);
    edges.changesNothing("copy: none, j below 0", past, x -> x.copy(0, 0, 1, -1, 0), INDEX);
    edges.changesNothing("copy: none, i above", past, x -> x.copy(0, 3, 1, 0, 0), INDEX);
    edges.changesNothing("copy: none, j above", past, x -> x.copy(0, 0, 1, 2, 0), INDEX);
    edges.changesNothing("copy: none of none, i above", past, x -> x.copy(2, 1, 2, 0, 0), INDEX);
    edges.changesNothing("copy: none of none, j above", past, x -> x.copy(2, 0, 2, 1, 0), INDEX);
    for (int far : new int[] {LEAST, MOST}) {
      edges.changesNothing("copy: none, i far off", past, x -> x.copy(0, far, 1, 0, 0), INDEX);
      edges.changesNothing("copy: none, j far off", past, x -> x.copy(0, 0, 1, far, 0), INDEX);
    }
  }

  /** "BAD; NULL (either); CAST; INDEX", in this order. */
  private static void p37WhichIsAhead() {
    Digest.Past past = x -> { fill(x, 0, 0, 1, 2); fill(x, 1, 1, 3); };
    edges.changesNothing("copy: CAST, INDEX by n", past, x -> x.copy(0, 0, 1, 0, -1), CAST);
    edges.changesNothing("copy: CAST, INDEX by i", past, x -> x.copy(0, -1, 1, 0, 1), CAST);
    edges.changesNothing("copy: CAST, INDEX by j", past, x -> x.copy(0, 0, 1, 9, 1), CAST);
    edges.changesNothing("copy: NULL, INDEX", past, x -> x.copy(0, 0, 2, 0, -1), NULL);
    edges.changesNothing("copy: NULL, INDEX", past, x -> x.copy(2, -1, 1, 0, 1), NULL);
    for (int s : new int[] {-1, 4, LEAST, MOST}) {
      edges.changesNothing("copy: no SHEET to, from a missing one", past, x -> x.copy(2, 0, s, 0, 1), BAD);
      edges.changesNothing("copy: no SHEET from, to a missing one", past, x -> x.copy(s, 0, 2, 0, 1), BAD);
      edges.changesNothing("copy: no SHEET to, INDEX", past, x -> x.copy(0, -1, s, 0, -1), BAD);
      edges.changesNothing("copy: no SHEET from, INDEX", past, x -> x.copy(s, 0, 1, 9, -1), BAD);
    }
  }

  /** "as if all were taken ahead": within one SHEET, up and down, by each distance. */
  private static void p37AsIfAllWereTakenAhead() {
    int[] row = {0, 1, 2, 3, -1, 0, 2, 1};
    for (int i = 0; i <= 8; i++) {
      for (int j = 0; j <= 8; j++) {
        for (int n = 0; n <= 8 - Math.max(i, j); n++) {
          int[] want = row.clone();
          for (int t = 0; t < n; t++) want[j + t] = row[i + t];
          int a = i, b = j, many = n;
          edges.answers("copy: n", with(2, 1, row), x -> x.copy(2, a, 2, b, many), n);
          holds("copy: " + n + " from " + i + " to " + j, x -> { fill(x, 2, 1, row); x.copy(2, a, 2, b, many); }, 2, 1, want);
        }
      }
    }
  }

  /** "n items .. come to another one": all 16, one, none; what they come from and items beside them stay. */
  private static void p37AllAndNone() {
    int[] ones = new int[16];
    java.util.Arrays.fill(ones, 1);
    for (int lane = 0; lane < 3; lane++) {
      int l = lane;
      Digest.Past past = x -> { fill(x, 0, l, SIXTEEN); fill(x, 3, l, ones); };
      edges.answers("copy: 16", past, x -> x.copy(0, 0, 3, 0, 16), 16);
      holds("copy: 16", x -> { past.of(x); x.copy(0, 0, 3, 0, 16); }, 3, lane, SIXTEEN);
      holds("copy: 16, from", x -> { past.of(x); x.copy(0, 0, 3, 0, 16); }, 0, lane, SIXTEEN);
      edges.changesNothing("copy: 17", past, x -> x.copy(0, 0, 3, 0, 17), INDEX);
      int[] last = ones.clone();
      last[15] = 3;
      holds("copy: the last", x -> { past.of(x); x.copy(0, 15, 3, 15, 1); }, 3, lane, last);
      int[] first = ones.clone();
      first[0] = 2;
      holds("copy: the first", x -> { past.of(x); x.copy(0, 2, 3, 0, 1); }, 3, lane, first);
    }
    holds("copy: what a byte holds, with its sign", x -> { fill(x, 0, 0, 255); x.sheet(1, 0, 1); x.copy(0, 0, 1, 0, 1); }, 1, 0, -1);
  }
}
