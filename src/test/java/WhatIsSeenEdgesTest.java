/** Promises 14 to 18 at their boundaries: eyes, heed, what is seen. */
public final class WhatIsSeenEdgesTest {
  private static final Edges edges = new Edges();
  private static final int BAD = -1, NOT = -2;
  private static final Digest.Past RICH = Edges.RICH, CROWDED = Edges.CROWDED;
  private static final int PLAIN = 0, WARNED = 1, CHILD = 2, CROSSED = 3;

  public static void main(String[] args) {
    p14Ranges();
    p14OneAtLeast();
    p14SizeOfAMove();
    p14Look();
    p14Name();
    p14Doubt();
    p14Crossed();
    p14FirstTimeNothingIsLearnt();
    p14Learn();
    p14LearnBehindAllThat();
    p14Greatest();
    p15Ranges();
    p15NineAheadOfBeat0();
    p15JokeWhateverElse();
    p15NineAtMost();
    p15NoneAtLeast();
    p15NineAtMostThenTwoLess();
    p15NotOfAChild();
    p16Ranges();
    p16TwoOrMoreLess();
    p16TwoOrMoreAbove();
    p16HeadAndWand();
    p17Ranges();
    p17ThereIsNone();
    p17BadAheadOfNot();
    p17SizeLessRowOneAtLeast();
    p17ElsewhereAboveSix();
    p17LowestTerms();
    p17NotAtAll();
    p17WhoseSeatCanSee();
    p17HeedOfEachKind();
    p18Ranges();
    p18ThereIsNone();
    p18BadAheadOfNot();
    p18EachCut();
    p18OfNobodyAndOfNothing();
    p18OfTheRoutine();
    p18Most();
    edges.end();
  }

  private static CoinNotThere one(int seat, int kind) {
    CoinNotThere x = new CoinNotThere();
    x.watcher(seat, kind);
    return x;
  }

  private static void pulls(String of, CoinNotThere x, int beat, int k, int... want) {
    for (int place = 0; place < 4; place++) edges.is("pull: " + of + ", PLACE " + place, x.pull(0, beat, place, k), want[place]);
  }

  /** WATCHERS 0 to how many less 1, "BEATS 0 .. 15", "PLACES are 0 .. 3", "k 1 .. 9". */
  private static void p14Ranges() {
    Edges.Row pull = (x, a) -> x.pull(a[0], a[1], a[2], a[3]);
    int[] row = {1, 7, 2, 3};
    edges.range("pull", RICH, pull, row, 0, 0, 4, BAD);
    edges.range("pull", CROWDED, pull, row, 0, 0, 7, BAD);
    edges.range("pull", RICH, pull, row, 1, 0, 15, BAD);
    edges.range("pull", RICH, pull, row, 2, 0, 3, BAD);
    edges.range("pull", RICH, pull, row, 3, 1, 9, BAD);
    edges.changesNothing("pull: k of 0", RICH, x -> x.pull(0, 0, 0, 0), BAD);
  }

  /** "PULL of a PLACE on a WATCHER in a BEAT: 1", of each KIND (on a WARNED one by his DOUBT more). */
  private static void p14OneAtLeast() {
    for (int kind : new int[] {PLAIN, CHILD, CROSSED}) {
      for (int beat = 0; beat < 16; beat++) pulls("nothing told", one(0, kind), beat, 9, 1, 1, 1, 1);
    }
    CoinNotThere x = one(0, WARNED);
    pulls("WARNED, nothing told", x, 0, 9, 4, 4, 1, 1);
    x.doubt(0, 0);
    pulls("WARNED, DOUBT 0", x, 15, 9, 1, 1, 1, 1);
  }

  /** "and the SIZE of a MOVE there": 1 .. 9, in its BEAT alone. */
  private static void p14SizeOfAMove() {
    for (int size : new int[] {1, 9}) {
      for (int beat : new int[] {0, 15}) {
        for (int at = 0; at < 4; at++) {
          CoinNotThere x = one(0, PLAIN);
          x.act(beat, 0, at, size);
          int[] want = {1, 1, 1, 1};
          pulls("another BEAT", x, beat == 0 ? 1 : 14, 1, want);
          want[at] += size;
          pulls("a MOVE of " + size, x, beat, 1, want);
        }
      }
    }
  }

  /** "and LOOK, if he LOOKS there": LOOK 0 .. 9. */
  private static void p14Look() {
    for (int look : new int[] {0, 1, 9}) {
      for (int at = 0; at < 4; at++) {
        CoinNotThere x = one(0, PLAIN);
        x.habit(0, look);
        x.cue(15, 0, at);
        int[] want = {1, 1, 1, 1};
        pulls("another BEAT", x, 14, 1, want);
        want[at] += look;
        pulls("LOOK " + look, x, 15, 1, want);
      }
    }
  }

  /** "and NAME, if he NAMES it (not on a CHILD)": NAME 0 .. 9. */
  private static void p14Name() {
    for (int name : new int[] {0, 1, 9}) {
      for (int at = 0; at < 4; at++) {
        for (int kind : new int[] {PLAIN, CHILD}) {
          CoinNotThere x = one(0, kind);
          x.habit(1, name);
          x.cue(0, 1, at);
          int[] want = {1, 1, 1, 1};
          pulls("another BEAT", x, 1, 1, want);
          if (kind == PLAIN) want[at] += name;
          pulls("NAME " + name + ", KIND " + kind, x, 0, 1, want);
        }
      }
    }
    CoinNotThere child = one(0, CHILD);
    child.cue(0, 0, 1);
    child.act(0, 0, 1, 2);
    child.cue(0, 1, 1);
    pulls("on a CHILD a MOVE and LOOK alone", child, 0, 1, 1, 7, 1, 1);
  }

  /** "On a WARNED one DOUBT more on each PLACE of 0 and 1 where he does not LOOK". */
  private static void p14Doubt() {
    for (int doubt : new int[] {0, 1, 9}) {
      for (int look = -1; look < 4; look++) {
        CoinNotThere x = one(0, WARNED);
        x.doubt(0, doubt);
        x.cue(3, 0, look);
        x.habit(0, 0);
        pulls("DOUBT " + doubt + ", he LOOKS at " + look, x, 3, 1, look == 0 ? 1 : 1 + doubt, look == 1 ? 1 : 1 + doubt, 1, 1);
        x.cue(3, 1, 0);
        x.act(3, 0, 1, 9);
        pulls("DOUBT, whatever else he does", x, 3, 1, look == 0 ? 4 : 4 + doubt, look == 1 ? 10 : 10 + doubt, 1, 1);
      }
    }
    CoinNotThere two = one(0, WARNED);
    two.watcher(1, WARNED);
    two.doubt(1, 9);
    edges.is("pull: each one's own DOUBT", two.pull(0, 0, 0, 1), 4);
    edges.is("pull: each one's own DOUBT", two.pull(1, 0, 0, 1), 10);
  }

  /** "on a CROSSED one PULLS of PLACES 0 and 1 are taken one for the other": these alone, and MOVE, LOOK and NAME of them. */
  private static void p14Crossed() {
    int[] other = {1, 0, 2, 3};
    for (int at = 0; at < 4; at++) {
      CoinNotThere x = one(0, CROSSED);
      int[] want = {1, 1, 1, 1};
      x.act(0, 0, at, 9);
      want[other[at]] += 9;
      pulls("CROSSED, a MOVE", x, 0, 1, want);
      x.cue(0, 0, at);
      want[other[at]] += 4;
      pulls("CROSSED, he LOOKS", x, 0, 1, want);
      x.cue(0, 1, at);
      want[other[at]] += 3;
      pulls("CROSSED, he NAMES", x, 0, 1, want);
    }
  }

  /** "LEARN times (k less 1) more": by k 1 and by LEARN 0 nothing. */
  private static void p14FirstTimeNothingIsLearnt() {
    for (int at = 0; at < 4; at++) {
      CoinNotThere x = one(0, PLAIN);
      x.act(2, 1, at, 9);
      x.habit(3, 9);
      pulls("the first time", x, 2, 1, 1, 1, 1, 1);
      x.habit(3, 0);
      for (int k = 1; k < 10; k++) pulls("LEARN 0", x, 2, k, 1, 1, 1, 1);
    }
  }

  /** "LEARN times (k less 1) more on the PLACE of each SLIP in its BEAT". */
  private static void p14Learn() {
    for (int at = 0; at < 4; at++) {
      for (int kind = 0; kind < 4; kind++) {
        CoinNotThere x = one(0, kind);
        if (kind == WARNED) x.doubt(0, 0);
        x.act(0, 1, at, 1);
        x.act(15, 1, 3 - at, 9);
        for (int k = 1; k < 10; k++) {
          int[] want = {1, 1, 1, 1};
          pulls("a BEAT without a SLIP", x, 7, k, want);
          want[at] += 2 * (k - 1);
          pulls("the " + k + "th time", x, 0, k, want);
          edges.is("pull: of another SLIP", x.pull(0, 15, 3 - at, k), 1 + 2 * (k - 1));
        }
      }
    }
  }

  /** "(behind all that)": on a CROSSED one, too, it is on the PLACE of the SLIP; on a WARNED one besides DOUBT. */
  private static void p14LearnBehindAllThat() {
    CoinNotThere x = one(0, CROSSED);
    Due.tell(x, "4:m09x05");
    pulls("CROSSED, a MOVE and a SLIP at THE RIGHT", x, 4, 2, 3, 10, 1, 1);
    CoinNotThere w = one(0, WARNED);
    Due.tell(w, "4:l1x15");
    pulls("WARNED, he LOOKS where the SLIP is", w, 4, 9, 4, 1 + 4 + 16, 1, 1);
  }

  /** All at their greatest: 1, a MOVE of 9, LOOK 9, NAME 9, LEARN 9 times 8; in place of LOOK a DOUBT of 9. */
  private static void p14Greatest() {
    for (int at = 0; at < 4; at++) {
      CoinNotThere x = one(0, PLAIN);
      for (int law = 0; law < 4; law++) x.habit(law, 9);
      Due.tell(x, "8:m" + at + "9l" + at + "n" + at + "x" + at + "9");
      int[] want = {1, 1, 1, 1};
      want[at] = 100;
      pulls("the greatest", x, 8, 9, want);
    }
    CoinNotThere w = one(0, WARNED);
    for (int law = 0; law < 4; law++) w.habit(law, 9);
    w.doubt(0, 9);
    Due.tell(w, "8:m19l0n1x19");
    pulls("the greatest, WARNED", w, 8, 9, 10, 100, 1, 1);
  }

  private static void heeds(String of, CoinNotThere x, int... want) {
    for (int beat = 0; beat < want.length; beat++) edges.is("heed: " + of + ", BEAT " + beat, x.heed(0, beat), want[beat]);
  }

  /** WATCHERS 0 to how many less 1, "BEATS 0 .. 15". */
  private static void p15Ranges() {
    Edges.Row heed = (x, a) -> x.heed(a[0], a[1]);
    edges.range("heed", RICH, heed, new int[] {1, 7}, 0, 0, 4, BAD);
    edges.range("heed", CROWDED, heed, new int[] {1, 7}, 0, 0, 7, BAD);
    edges.range("heed", RICH, heed, new int[] {1, 7}, 1, 0, 15, BAD);
  }

  /** "HEED of a WATCHER is 9 ahead of BEAT 0": in BEAT 0 no more than 9, less by what he NAMES, 0 by a JOKE. */
  private static void p15NineAheadOfBeat0() {
    for (int kind = 0; kind < 4; kind++) {
      for (int back : new int[] {0, 3, 9}) {
        CoinNotThere x = one(0, kind);
        x.habit(2, back);
        heeds("nothing told", x, 9, 9, 9, 9, 9, 9, 9, 9, 9, 9, 9, 9, 9, 9, 9, 9);
        x.cue(0, 1, 0);
        edges.is("heed: he NAMES in BEAT 0", x.heed(0, 0), kind == CHILD ? 9 : 7);
        x.cue(0, 2, 1);
        edges.is("heed: a JOKE in BEAT 0", x.heed(0, 0), 0);
      }
    }
  }

  /** "by a JOKE it is 0 (whatever else is told)": in its BEAT and not ahead of it. */
  private static void p15JokeWhateverElse() {
    for (int kind = 0; kind < 4; kind++) {
      for (int beat : new int[] {0, 8, 15}) {
        CoinNotThere x = one(0, kind);
        x.habit(2, 9);
        Due.tell(x, beat + ":m09l0n0jx09");
        for (int b = 0; b < 16; b++) edges.is("heed: a JOKE in BEAT " + beat, x.heed(0, b), b == beat ? 0 : 9);
      }
    }
  }

  /** "else it is BACK more (9 at most)", BACK 0 .. 9. */
  private static void p15NineAtMost() {
    for (int back = 0; back < 10; back++) {
      CoinNotThere x = one(0, PLAIN);
      x.habit(2, back);
      x.cue(0, 2, 1);
      for (int b = 0; b < 16; b++) edges.is("heed: BACK " + back, x.heed(0, b), Math.min(9, back * b));
      x.cue(5, 2, 1);
      for (int b = 5; b < 16; b++) edges.is("heed: BACK " + back + ", a second JOKE", x.heed(0, b), Math.min(9, back * (b - 5)));
    }
  }

  /** "then, if he NAMES something, 2 less (0 at least)". */
  private static void p15NoneAtLeast() {
    int[] behind = {0, 0, 0, 1, 2, 3, 4, 5, 6, 7};
    for (int back = 0; back < 10; back++) {
      for (int place = 0; place < 4; place++) {
        CoinNotThere x = one(0, PLAIN);
        x.habit(2, back);
        x.cue(0, 2, 1);
        x.cue(1, 1, place);
        edges.is("heed: he NAMES behind a JOKE, BACK " + back, x.heed(0, 1), behind[back]);
      }
    }
    CoinNotThere x = one(0, PLAIN);
    for (int beat = 0; beat < 16; beat++) x.cue(beat, 1, beat % 4);
    x.habit(2, 0);
    heeds("he NAMES in all BEATS, BACK 0", x, 7, 5, 3, 1, 0, 0, 0, 0, 0, 0, 0, 0, 0, 0, 0, 0);
    x.habit(2, 1);
    heeds("he NAMES in all BEATS, BACK 1", x, 7, 6, 5, 4, 3, 2, 1, 0, 0, 0, 0, 0, 0, 0, 0, 0);
  }

  /** "BACK more (9 at most), then .. 2 less": what goes beyond 9 is lost ahead of the 2. */
  private static void p15NineAtMostThenTwoLess() {
    for (int back : new int[] {2, 3, 9}) {
      for (int kind : new int[] {PLAIN, WARNED, CROSSED}) {
        CoinNotThere x = one(0, kind);
        x.habit(2, back);
        for (int beat = 0; beat < 16; beat++) x.cue(beat, 1, 3);
        heeds("he NAMES in all BEATS, BACK " + back, x, 7, 7, 7, 7, 7, 7, 7, 7, 7, 7, 7, 7, 7, 7, 7, 7);
      }
    }
  }

  /** "(0 at least; not of a CHILD)". */
  private static void p15NotOfAChild() {
    CoinNotThere x = one(0, CHILD);
    x.habit(2, 1);
    for (int beat = 0; beat < 16; beat++) x.cue(beat, 1, beat % 4);
    x.cue(2, 2, 1);
    heeds("a CHILD", x, 9, 9, 0, 1, 2, 3, 4, 5, 6, 7, 8, 9, 9, 9, 9, 9);
  }

  /** "SEATS are 0 .. 11", "PLACES are 0 .. 3". */
  private static void p16Ranges() {
    Edges.Row can = (x, a) -> x.can(a[0], a[1]);
    edges.range("can", RICH, can, new int[] {5, 2}, 0, 0, 11, BAD);
    edges.range("can", RICH, can, new int[] {5, 2}, 1, 0, 3, BAD);
    edges.range("can, in an empty house", Edges.NEW, can, new int[] {5, 2}, 0, 0, 11, BAD);
  }

  /** Whether each COLUMN can see a PLACE from before a COLUMN, in all three ROWS. */
  private static void canSee(int place, int stands, int... want) {
    CoinNotThere x = new CoinNotThere();
    x.stand(stands);
    for (int seat = 0; seat < 12; seat++) {
      edges.is("can: PLACE " + place + " from SEAT " + seat + ", he STANDS before " + stands, x.can(seat, place), want[seat % 4]);
    }
  }

  /** "A SEAT can't see THE LEFT, if its COLUMN is 2 or more less than where he STANDS". */
  private static void p16TwoOrMoreLess() {
    canSee(1, 0, 1, 1, 1, 1);
    canSee(1, 1, 1, 1, 1, 1);
    canSee(1, 2, 0, 1, 1, 1);
    canSee(1, 3, 0, 0, 1, 1);
  }

  /** "can't see THE RIGHT, if it is 2 or more above". */
  private static void p16TwoOrMoreAbove() {
    canSee(0, 0, 1, 1, 0, 0);
    canSee(0, 1, 1, 1, 1, 0);
    canSee(0, 2, 1, 1, 1, 1);
    canSee(0, 3, 1, 1, 1, 1);
  }

  /** No sentence hides THE HEAD or THE WAND. */
  private static void p16HeadAndWand() {
    for (int stands = 0; stands < 4; stands++) {
      canSee(2, stands, 1, 1, 1, 1);
      canSee(3, stands, 1, 1, 1, 1);
    }
  }

  private static void odds(String of, CoinNotThere x, int beat, int k, int above, int below) {
    edges.is("odds: " + of + ", above", x.odds(0, beat, k, 0), above);
    edges.is("odds: " + of + ", below", x.odds(0, beat, k, 1), below);
  }

  private static final Digest.Past ALL_SLIPS = x -> {
    RICH.of(x);
    for (int beat = 0; beat < 16; beat++) x.act(beat, 1, beat % 4, 9);
  };

  /** WATCHERS 0 to how many less 1, "BEATS 0 .. 15", "k 1 .. 9", "BAD: also a part": above (0), below (1). */
  private static void p17Ranges() {
    Edges.Row odds = (x, a) -> x.odds(a[0], a[1], a[2], a[3]);
    int[] row = {1, 7, 2, 1};
    edges.range("odds", ALL_SLIPS, odds, row, 0, 0, 4, BAD);
    edges.range("odds", CROWDED, odds, row, 0, 0, 7, BAD);
    edges.range("odds", ALL_SLIPS, odds, row, 1, 0, 15, BAD);
    edges.range("odds", ALL_SLIPS, odds, row, 2, 1, 9, BAD);
    edges.range("odds", ALL_SLIPS, odds, row, 3, 0, 1, BAD);
  }

  private static final Digest.Past NO_SLIP = x -> { RICH.of(x); for (int beat = 0; beat < 16; beat++) x.act(beat, 1, 0, 0); };

  /** "NOT: there is none", in that BEAT, though others have one. */
  private static void p17ThereIsNone() {
    for (int beat = 0; beat < 16; beat++) {
      int b = beat;
      for (int part = 0; part < 2; part++) {
        int p = part;
        edges.changesNothing("odds: no SLIP", NO_SLIP, x -> x.odds(0, b, 1, p), NOT);
        edges.answers("odds: none there", x -> { ALL_SLIPS.of(x); x.act(b, 1, 0, 0); }, x -> x.odds(0, b, 9, p), NOT);
      }
    }
  }

  /** "BAD ahead of all others". */
  private static void p17BadAheadOfNot() {
    int[][] wrong = {{-1, 0, 1, 0}, {5, 0, 1, 0}, {0, -1, 1, 0}, {0, 16, 1, 0}, {0, 0, 0, 0}, {0, 0, 10, 0}, {0, 0, 1, -1}, {0, 0, 1, 2}};
    for (int[] w : wrong) edges.changesNothing("odds: no SLIP and wrong", NO_SLIP, x -> x.odds(w[0], w[1], w[2], w[3]), BAD);
  }

  /** What one sees of a SLIP at THE HEAD, all PLACES drawing alike, by s: in 36ths, HEED being 9. */
  private static final int[] IN_36THS = {0, 1, 2, 3, 4, 5, 6, 10, 14, 18};

  /** "with s its SIZE less ROW (1 at least)": by each SIZE, from each SEAT. */
  private static void p17SizeLessRowOneAtLeast() {
    int[][] s = {{1, 2, 3, 4, 5, 6, 7, 8, 9}, {1, 1, 2, 3, 4, 5, 6, 7, 8}, {1, 1, 1, 2, 3, 4, 5, 6, 7}};
    for (int seat = 0; seat < 12; seat++) {
      CoinNotThere x = one(seat, PLAIN);
      for (int size = 1; size < 10; size++) {
        x.act(0, 1, 2, size);
        int above = x.odds(0, 0, 1, 0), below = x.odds(0, 0, 1, 1);
        edges.is("odds: SIZE " + size + " from SEAT " + seat, 36 * above, below * IN_36THS[s[seat / 4][size - 1]]);
        edges.is("sees: SIZE " + size + " from SEAT " + seat, x.sees(0, 1), 1000 * IN_36THS[s[seat / 4][size - 1]] / 36);
      }
    }
  }

  /** "if they are elsewhere, by HEED times (s less 6) by 81, if s is above 6, else not at all": EYES all but never there. */
  private static void p17ElsewhereAboveSix() {
    for (int size = 1; size < 10; size++) {
      CoinNotThere x = one(0, PLAIN);
      x.habit(0, 9);
      Due.tell(x, "0:m39l3x0" + size);
      // PULLS are 1, 1, 1, 19: EYES are there by 1 of 22
      int above = x.odds(0, 0, 1, 0), below = x.odds(0, 0, 1, 1);
      edges.is("odds: s " + size + ", EYES mostly elsewhere", 198 * above, below * (size + 21 * Math.max(0, size - 6)));
    }
    CoinNotThere x = one(0, PLAIN);
    x.habit(0, 9);
    x.cue(0, 0, 3);
    x.act(0, 1, 0, 6);
    odds("s 6: there alone, 6 by 9, by 13", x, 0, 1, 2, 39);
    x.act(0, 1, 0, 7);
    odds("s 7: 7 and 12, by 117", x, 0, 1, 19, 117);
  }

  /** "Fractions are told in lowest terms". */
  private static void p17LowestTerms() {
    CoinNotThere x = one(0, PLAIN);
    int[][] lowest = {{1, 36}, {1, 18}, {1, 12}, {1, 9}, {5, 36}, {1, 6}, {5, 18}, {7, 18}, {1, 2}};
    for (int size = 1; size < 10; size++) {
      x.act(9, 1, 3, size);
      odds("SIZE " + size, x, 9, 1, lowest[size - 1][0], lowest[size - 1][1]);
    }
    x.habit(3, 9);
    odds("SIZE 9, the 9th time: 73 9 and 3 3, by 9 76", x, 9, 9, 37, 38);
    x.cue(8, 2, 1);
    odds("SIZE 9 behind a JOKE: HEED 3", x, 9, 1, 1, 6);
  }

  /** "A SLIP is SEEN by a WATCHER, whose SEAT can see its PLACE": else, and by HEED 0, ODDS are 0 by 1. */
  private static void p17NotAtAll() {
    CoinNotThere x = one(3, PLAIN);
    x.act(0, 1, 0, 9);
    odds("he STANDS 2 less", x, 0, 1, 0, 1);
    odds("he STANDS 2 less, the 9th time", x, 0, 9, 0, 1);
    x.stand(2);
    odds("he STANDS 1 less", x, 0, 1, 1, 2);
    x.cue(0, 2, 1);
    odds("HEED 0", x, 0, 1, 0, 1);
    CoinNotThere y = one(8, CHILD);
    y.stand(2);
    y.act(15, 1, 1, 9);
    odds("he STANDS 2 above", y, 15, 1, 0, 1);
    y.stand(1);
    odds("he STANDS 1 above", y, 15, 1, 5, 18);
    y.stand(3);
    y.act(15, 1, 0, 9);
    odds("THE RIGHT is not hidden there", y, 15, 1, 5, 18);
  }

  /** "A SLIP is SEEN by a WATCHER, whose SEAT can see its PLACE": each SEAT, PLACE and SIZE from before each COLUMN. */
  private static void p17WhoseSeatCanSee() {
    int[][] hidden = {{0b1100, 0b1000, 0, 0}, {0, 0, 0b0001, 0b0011}, {0, 0, 0, 0}, {0, 0, 0, 0}};
    for (int seat = 0; seat < 12; seat++) {
      for (int place = 0; place < 4; place++) {
        CoinNotThere x = one(seat, PLAIN);
        for (int stands = 0; stands < 4; stands++) {
          x.stand(stands);
          boolean can = (hidden[place][stands] >> seat % 4 & 1) == 0;
          for (int size = 1; size < 10; size++) {
            x.act(5, 1, place, size);
            String of = "SLIP " + place + size + " from SEAT " + seat + ", he STANDS before " + stands;
            edges.is("odds: " + of, x.odds(0, 5, 1, 0) > 0 ? 1 : 0, can ? 1 : 0);
            edges.is("sees: " + of, x.sees(5, 1) > 0 ? 1 : 0, can ? 1 : 0);
          }
        }
      }
    }
  }

  /** "by HEED times s by 81": HEED of that one, 2 less where he NAMES, but of a CHILD; NAME 0 and DOUBT 0 draw nobody. */
  private static void p17HeedOfEachKind() {
    for (int kind = 0; kind < 4; kind++) {
      CoinNotThere x = one(0, kind);
      x.doubt(0, 0);
      x.habit(1, 0);
      Due.tell(x, "5:n3x24");
      odds("he NAMES, KIND " + kind, x, 5, 1, kind == CHILD ? 1 : 7, kind == CHILD ? 9 : 81);
      edges.is("sees: he NAMES, KIND " + kind, x.sees(5, 1), kind == CHILD ? 111 : 86);
      x.habit(2, 5);
      x.cue(4, 2, 1);
      odds("he NAMES behind a JOKE, BACK 5, KIND " + kind, x, 5, 1, kind == CHILD ? 5 : 1, kind == CHILD ? 81 : 27);
      edges.is("sees: he NAMES behind a JOKE, BACK 5, KIND " + kind, x.sees(5, 1), kind == CHILD ? 61 : 37);
      x.habit(2, 2);
      odds("he NAMES behind a JOKE, BACK 2, KIND " + kind, x, 5, 1, kind == CHILD ? 2 : 0, kind == CHILD ? 81 : 1);
      edges.is("sees: he NAMES behind a JOKE, BACK 2, KIND " + kind, x.sees(5, 1), kind == CHILD ? 24 : 0);
    }
  }

  /** "SEES of the SLIP of a BEAT; of the routine (-1); the k-th time": -1 .. 15, "k 1 .. 9". */
  private static void p18Ranges() {
    Edges.Row sees = (x, a) -> x.sees(a[0], a[1]);
    edges.range("sees", ALL_SLIPS, sees, new int[] {7, 2}, 0, -1, 15, BAD);
    edges.range("sees", ALL_SLIPS, sees, new int[] {7, 2}, 1, 1, 9, BAD);
    edges.range("sees of the routine", ALL_SLIPS, sees, new int[] {-1, 2}, 1, 1, 9, BAD);
  }

  /** "NOT: there is none in that BEAT"; of the routine none is no refusal. */
  private static void p18ThereIsNone() {
    for (int beat = 0; beat < 16; beat++) {
      int b = beat;
      edges.changesNothing("sees: no SLIP", NO_SLIP, x -> x.sees(b, 1), NOT);
      edges.answers("sees: none there", x -> { ALL_SLIPS.of(x); x.act(b, 1, 0, 0); }, x -> x.sees(b, 9), NOT);
    }
    for (int k = 1; k < 10; k++) {
      int times = k;
      edges.changesNothing("sees: of the routine", NO_SLIP, x -> x.sees(-1, times), 0);
    }
  }

  /** "BAD ahead of all others". */
  private static void p18BadAheadOfNot() {
    for (int k : new int[] {0, 10, Edges.LEAST, Edges.MOST}) {
      edges.changesNothing("sees: no SLIP and wrong", NO_SLIP, x -> x.sees(0, k), BAD);
      edges.changesNothing("sees: of the routine and wrong", NO_SLIP, x -> x.sees(-1, k), BAD);
    }
  }

  /** "the thousandths of ODDS (each cut) of all WATCHERS, together": 8 times 27.7 are 8 times 27. */
  private static void p18EachCut() {
    CoinNotThere x = new CoinNotThere();
    x.act(0, 1, 2, 1);
    for (int many = 1; many <= 8; many++) {
      x.watcher(many - 1, PLAIN);
      edges.is("sees: 1 by 36, " + many + " times", x.sees(0, 1), 27 * many);
    }
    x.act(15, 1, 2, 1);
    edges.is("sees: of the routine, cut one by one", x.sees(-1, 1), 2 * 8 * 27);
  }

  /** An empty house sees nothing; a SLIP that nobody sees is no refusal. */
  private static void p18OfNobodyAndOfNothing() {
    edges.answers("sees: nobody is there", x -> x.act(0, 1, 0, 9), x -> x.sees(0, 1), 0);
    edges.answers("sees: nobody is there, of the routine", x -> x.act(0, 1, 0, 9), x -> x.sees(-1, 9), 0);
    edges.answers("sees: nobody is left", x -> { x.act(0, 1, 0, 9); x.watcher(0, 0); x.leave(0); }, x -> x.sees(0, 1), 0);
    edges.answers("sees: nobody can see", x -> { x.act(0, 1, 0, 9); x.watcher(3, 0); }, x -> x.sees(0, 1), 0);
  }

  /** "SEES of the routine those of all SLIPS": the first and the last BEAT, too. */
  private static void p18OfTheRoutine() {
    for (int k : new int[] {1, 9}) {
      CoinNotThere x = new CoinNotThere();
      ALL_SLIPS.of(x);
      int sum = 0;
      for (int beat = 0; beat < 16; beat++) sum += x.sees(beat, k);
      edges.is("sees: of all 16", x.sees(-1, k), sum);
      for (int beat : new int[] {0, 15}) {
        int its = x.sees(beat, k);
        x.act(beat, 1, 0, 0);
        sum -= its;
        edges.is("sees: without BEAT " + beat, x.sees(-1, k), sum);
      }
    }
  }

  /** All at their greatest: 8 in front or behind them, 16 SLIPS of SIZE 9, 100 of 103 EYES there. */
  private static void p18Most() {
    CoinNotThere x = new CoinNotThere();
    for (int seat = 0; seat < 8; seat++) x.watcher(seat, PLAIN);
    for (int law = 0; law < 4; law++) x.habit(law, 9);
    for (int beat = 0; beat < 16; beat++) {
      x.act(beat, 0, 2, 9);
      x.cue(beat, 0, 2);
      x.act(beat, 1, 2, 9);
    }
    // 91 there, 3 elsewhere: ROW 0 (91 9 and 3 3) by 9 94, ROW 1 (91 8 and 3 2) by 9 94
    edges.is("sees: the most, one SLIP", x.sees(15, 9), 4 * 978 + 4 * 867);
    edges.is("sees: the most", x.sees(-1, 9), 16 * (4 * 978 + 4 * 867));
    x.habit(3, 0);
    edges.is("sees: LEARN 0: 19 of 22", x.sees(-1, 9), 16 * (4 * 909 + 4 * 797));
  }
}
