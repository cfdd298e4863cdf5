/** Promises 19 to 32 at their boundaries: what would be, and images. */
public final class WhatWouldBeEdgesTest {
  private static final Edges edges = new Edges();
  private static final int BAD = -1, NOT = -2, FULL = -3, NONE = -4, FAR = -100001;
  private static final Digest.Past NEW = Edges.NEW, RICH = Edges.RICH, CROWDED = Edges.CROWDED;

  public static void main(String[] args) {
    p19Ranges();
    p19ThereIsNone();
    p19NoOtherSlip();
    p19OfLikeOnesTheFirst();
    p19AllElseAsItIs();
    p20Ranges();
    p20JokeAtPlaceZeroAlone();
    p20Eight();
    p20BadAheadOfFull();
    p21Ranges();
    p21RefusedIs100000Less();
    p21InPlaceOfWhatIsTold();
    p21OneBehindTheOther();
    p21CoversThatDoNothing();
    p21EightCovers();
    p22Ranges();
    p22NoMoreThanACoin();
    p22EmptySet();
    p22LikeOnes();
    p22AllEight();
    p23EmptyAndFull();
    p23EachSeatAndPlace();
    p23OneWhoCanSee();
    p24Ranges();
    p24NoMoreThanTold();
    p24NotOnceAndNine();
    p25Warning();
    p26Ranges();
    p26AheadOfIt();
    p26NoneAtLeast();
    p26NoBeatBehindTheLastSlip();
    p26FirstBeatByWhichLeast();
    p27Ranges();
    p27TwentyFour();
    p28Ranges();
    p28NoPoints();
    p28LookFromNoneToNine();
    p28NoneFitsAllFit();
    p29Ranges();
    p29ShareOfNone();
    p29Cut();
    p30Clear();
    p31Image();
    p32NoImage();
    p32AllAsItWas();
    questionsChangeNothing();
    edges.end();
  }

  /** A SLIP at THE HEAD, of SIZE 4: one PLAIN in front sees 111 thousandths of it while nothing else is told. */
  private static Digest.Past slip(int beat) { return x -> { x.watcher(0, 0); x.act(beat, 1, 2, 4); }; }

  private static CoinNotThere behind(Digest.Past past) {
    CoinNotThere x = new CoinNotThere();
    past.of(x);
    return x;
  }

  private static void quiet(String of, CoinNotThere x, int beat, int best, int sees) {
    edges.is("quiet: " + of, x.quiet(beat, 0), best);
    edges.is("quiet: " + of + ", SEES", x.quiet(beat, 1), sees);
  }

  private static final Digest.Past ALL_SLIPS = x -> { RICH.of(x); for (int b = 0; b < 16; b++) x.act(b, 1, b % 4, 9); };

  /** "BEATS 0 .. 15", "the BEAT (0), SEES then (1)". */
  private static void p19Ranges() {
    Edges.Row quiet = (x, a) -> x.quiet(a[0], a[1]);
    edges.range("quiet", ALL_SLIPS, quiet, new int[] {7, 0}, 0, 0, 15, BAD);
    edges.range("quiet", ALL_SLIPS, quiet, new int[] {7, 0}, 1, 0, 1, BAD);
  }

  /** "NOT: there is none", behind BAD. */
  private static void p19ThereIsNone() {
    for (int beat = 0; beat < 16; beat++) {
      int b = beat;
      Digest.Past without = x -> { ALL_SLIPS.of(x); x.act(b, 1, 0, 0); };
      edges.changesNothing("quiet: none in BEAT " + b, without, x -> x.quiet(b, 0), NOT);
      edges.changesNothing("quiet: none in BEAT " + b, without, x -> x.quiet(b, 1), NOT);
      edges.changesNothing("quiet: none and wrong", without, x -> x.quiet(b, 2), BAD);
      edges.changesNothing("quiet: none and wrong", without, x -> x.quiet(b, -1), BAD);
    }
  }

  /** "the BEAT (that has no other SLIP)": none but its own is free; one other is free. */
  private static void p19NoOtherSlip() {
    for (int beat = 0; beat < 16; beat++) {
      CoinNotThere x = behind(slip(beat));
      for (int b = 0; b < 16; b++) {
        if (b != beat) x.act(b, 1, 3, 9);
        if (b != beat) x.cue(b, 2, 1);
      }
      int heed = beat == 0 ? 9 : 3;
      quiet("no other BEAT is free", x, beat, beat, 1000 * 4 * heed / (81 * 4));
      int free = (beat + 7) % 16;
      x.act(free, 1, 0, 0);
      quiet("one other BEAT is free, with a JOKE", x, beat, free, 0);
    }
  }

  /** "of like ones the first". */
  private static void p19OfLikeOnesTheFirst() {
    for (int beat = 0; beat < 16; beat++) {
      quiet("all alike", behind(slip(beat)), beat, 0, 111);
      CoinNotThere nobody = behind(slip(beat));
      nobody.leave(0);
      quiet("nobody is there", nobody, beat, 0, 0);
    }
    CoinNotThere x = behind(slip(9));
    x.act(0, 1, 0, 1);
    x.act(1, 1, 0, 1);
    quiet("the first that is free", x, 9, 2, 111);
    x.cue(15, 2, 1);
    quiet("the last BEAT", x, 9, 15, 0);
    x.cue(14, 2, 1);
    quiet("the last but one as well", x, 9, 14, 0);
    x.cue(9, 2, 1);
    quiet("its own BEAT as well", x, 9, 9, 0);
    x.cue(0, 2, 1);
    quiet("BEAT 0 has another SLIP", x, 9, 9, 0);
    x.cue(2, 2, 1);
    quiet("one ahead of its own", x, 9, 2, 0);
  }

  /** "in which, all else as it is, its SEES are least": what is told of its BEAT stays there, other SLIPS' SEES count not. */
  private static void p19AllElseAsItIs() {
    CoinNotThere x = behind(slip(0));
    x.act(0, 0, 2, 9);
    quiet("the MOVE stays: 10 of 13 there, 1 of 4 elsewhere", x, 0, 1, 111);
    x.act(0, 0, 3, 9);
    quiet("its own MOVE covers it: 1 of 13", x, 0, 0, 34);
    x.habit(3, 9);
    quiet("it is the first time", x, 0, 0, 34);
    x.act(5, 1, 2, 9);
    quiet("another SLIP", x, 0, 0, 34);
    edges.changesNothing("quiet: nothing moves", ALL_SLIPS, y -> y.quiet(4, 0), 4);
  }

  /** "BEATS", "one of: 0 .. 3", "a PLACE", "a COST (0 .. 99)". */
  private static void p20Ranges() {
    Edges.Row cover = (x, a) -> x.cover(a[0], a[1], a[2], a[3]);
    for (int kind = 0; kind < 4; kind++) {
      int[] row = {7, kind, 0, 50};
      edges.range("cover", RICH, cover, row, 0, 0, 15, BAD);
      edges.range("cover", RICH, cover, row, 1, 0, 3, BAD);
      edges.range("cover", RICH, cover, row, 2, 0, kind == 3 ? 0 : 3, BAD);
      edges.range("cover", RICH, cover, row, 3, 0, 99, BAD);
    }
  }

  /** "BAD: also a JOKE with another PLACE than 0". */
  private static void p20JokeAtPlaceZeroAlone() {
    for (int place : new int[] {-1, 1, 2, 3, 4}) edges.changesNothing("cover: a JOKE at " + place, RICH, x -> x.cover(0, 3, place, 0), BAD);
    edges.answers("cover: a JOKE", RICH, x -> x.cover(0, 3, 0, 0), 4);
  }

  /** "COVERS 0 .. 7, as they come", "its number", "FULL: 8". */
  private static void p20Eight() {
    CoinNotThere x = new CoinNotThere();
    for (int c = 0; c < 8; c++) edges.is("cover: the number", x.cover(15, c % 3, 3, 99), c);
    edges.is("cover: a ninth", x.cover(0, 0, 0, 0), FULL);
    edges.changesNothing("cover: a ninth", CROWDED, y -> y.cover(0, 0, 0, 0), FULL);
    edges.changesNothing("cover: a ninth, one that is there", CROWDED, y -> y.cover(0, 0, 2, 40), FULL);
    edges.answers("cover: room again", y -> { CROWDED.of(y); y.clear(); }, y -> y.cover(0, 0, 0, 0), 0);
  }

  /** "BAD ahead of all others". */
  private static void p20BadAheadOfFull() {
    int[][] wrong = {{-1, 0, 0, 0}, {16, 0, 0, 0}, {0, -1, 0, 0}, {0, 4, 0, 0}, {0, 0, -1, 0}, {0, 0, 4, 0}, {0, 0, 0, -1}, {0, 0, 0, 100},
        {0, 3, 1, 0}};
    for (int[] w : wrong) edges.changesNothing("cover: 8 and wrong", CROWDED, x -> x.cover(w[0], w[1], w[2], w[3]), BAD);
  }

  /** COVERS 0 to how many less 1, "ALONE (0), WITH (1)", "BAD less 100000". */
  private static void p21Ranges() {
    Edges.Row does = (x, a) -> x.does(a[0], a[1]);
    for (int what = 0; what < 2; what++) {
      edges.range("does", RICH, does, new int[] {0, what}, 0, 0, 3, FAR);
      edges.range("does", CROWDED, does, new int[] {0, what}, 0, 0, 7, FAR);
    }
    edges.range("does", RICH, does, new int[] {3, 0}, 1, 0, 1, FAR);
    edges.changesNothing("does: no COVERS", NEW, x -> x.does(0, 0), FAR);
    edges.changesNothing("does: no COVERS any more", x -> { RICH.of(x); x.clear(); }, x -> x.does(0, 1), FAR);
  }

  /** "Where a told thing may be below 0, refused ones are 100000 less": -1 is told, as well. */
  private static void p21RefusedIs100000Less() {
    Digest.Past onTheSlip = x -> {
      x.watcher(0, 0);
      x.habit(0, 1);
      x.habit(2, 1);
      x.cue(0, 2, 1);
      x.act(1, 1, 2, 1);
      x.cover(1, 1, 2, 0);
    };
    edges.changesNothing("does: 3.08 less 4.93, each cut", onTheSlip, x -> x.does(0, 0), -1);
    edges.changesNothing("does: the only one", onTheSlip, x -> x.does(0, 1), -1);
  }

  /** What a COVER does ALONE and WITH. */
  private static void does(String of, CoinNotThere x, int cover, int alone, int with) {
    edges.is("does: " + of + ", ALONE", x.does(cover, 0), alone);
    edges.is("does: " + of + ", WITH", x.does(cover, 1), with);
  }

  /** "in place of what is told there (of that kind)": a MOVE of SIZE 9 becomes one of SIZE 6, other kinds stay. */
  private static void p21InPlaceOfWhatIsTold() {
    CoinNotThere move = behind(slip(3));
    move.act(3, 0, 2, 9);
    move.cover(3, 0, 2, 0);
    does("a MOVE of 6 for one of 9: 10 of 13, 7 of 10", move, 0, 341 - 311, 341 - 311);
    CoinNotThere look = behind(slip(3));
    look.cue(3, 0, 2);
    look.cover(3, 1, 3, 0);
    does("he LOOKS away: 5 of 8, 1 of 8", look, 0, 277 - 55, 277 - 55);
    CoinNotThere name = behind(slip(3));
    name.cue(3, 1, 2);
    name.cover(3, 2, 0, 0);
    does("he NAMES another, HEED is 7 as it was: 4 of 7, 1 of 7", name, 0, 197 - 49, 197 - 49);
    CoinNotThere joke = behind(slip(3));
    joke.cue(3, 2, 1);
    joke.cover(3, 3, 0, 0);
    does("a JOKE for a JOKE", joke, 0, 0, 0);
    CoinNotThere all = behind(slip(3));
    Due.tell(all, "3:m29l2n2x24");
    edges.is("does: BARE: 17 of 20 by 28 by 81", all.sees(-1, 1), 293);
    all.cover(3, 1, 0, 0);
    does("LOOKS alone: 13 of 20", all, 0, 293 - 224, 293 - 224);
  }

  /** "they are told besides, one behind the other": of two of a kind in a BEAT the later counts. */
  private static void p21OneBehindTheOther() {
    for (int kind = 0; kind < 3; kind++) {
      CoinNotThere x = behind(slip(3));
      x.cover(3, kind, 2, 0);
      x.cover(3, kind, 3, 0);
      int bare = 111, there = new int[] {311, 277, 197}[kind], away = new int[] {44, 55, 49}[kind];
      does("the earlier of kind " + kind, x, 0, bare - there, 0);
      does("the later of kind " + kind, x, 1, bare - away, there - away);
    }
  }

  /** A COVER behind the SLIP, or one told twice, does nothing; with no SLIP none does anything. */
  private static void p21CoversThatDoNothing() {
    for (int kind = 0; kind < 4; kind++) {
      CoinNotThere x = behind(slip(3));
      x.cover(4, kind, 0, 0);
      does("a BEAT behind the SLIP", x, 0, 0, 0);
      x.cover(15, kind, 0, 0);
      does("the last BEAT", x, 1, 0, 0);
      x.act(3, 1, 0, 0);
      does("no SLIP", x, 0, 0, 0);
      CoinNotThere twice = behind(slip(3));
      twice.cover(3, 3, 0, 0);
      twice.cover(3, 3, 0, 0);
      does("one of two alike", twice, 0, 111, 0);
    }
    CoinNotThere ahead = behind(slip(3));
    ahead.cover(0, 3, 0, 0);
    does("a JOKE 3 BEATS ahead, BACK 3: HEED is back", ahead, 0, 0, 0);
    ahead.habit(2, 2);
    does("a JOKE 3 BEATS ahead, BACK 2: HEED 6", ahead, 0, 111 - 74, 111 - 74);
  }

  /** "SEES with all but one less SEES with all": the first and the last of 8. */
  private static void p21EightCovers() {
    CoinNotThere x = behind(slip(0));
    for (int c = 0; c < 7; c++) x.cover(0, 1, 3, 0);
    x.cover(0, 1, 1, 0);
    does("the first of 8", x, 0, 111 - 55, 0);
    does("the last of 8", x, 7, 111 - 55, 0);
    x.clear();
    for (int c = 0; c < 7; c++) x.cover(0, 1, 2, 0);
    x.cover(0, 1, 1, 0);
    does("the seventh of 8", x, 6, 111 - 277, 0);
    does("the last of 8, in place of the others", x, 7, 111 - 55, 277 - 55);
  }

  private static void bought(String of, CoinNotThere x, int coin, int set, int sees, int cost) {
    edges.is("bought(" + coin + "): " + of + ", set", x.bought(coin, 0), set);
    edges.is("bought(" + coin + "): " + of + ", SEES", x.bought(coin, 1), sees);
    edges.is("bought(" + coin + "): " + of + ", COST", x.bought(coin, 2), cost);
  }

  /** "a coin (0 .. 999)", "the set (0), SEES (1), COST (2)". */
  private static void p22Ranges() {
    Edges.Row bought = (x, a) -> x.bought(a[0], a[1]);
    for (int what = 0; what < 3; what++) edges.range("bought", RICH, bought, new int[] {50, what}, 0, 0, 999, BAD);
    edges.range("bought", RICH, bought, new int[] {50, 0}, 1, 0, 2, BAD);
    edges.range("bought, no COVERS", NEW, bought, new int[] {50, 0}, 0, 0, 999, BAD);
  }

  /** "the set of COVERS that costs no more than a coin". */
  private static void p22NoMoreThanACoin() {
    for (int cost : new int[] {0, 1, 50, 99}) {
      CoinNotThere x = behind(slip(3));
      x.cover(3, 3, 0, cost);
      if (cost > 0) bought("one less than its COST", x, cost - 1, 0, 111, 0);
      bought("just its COST", x, cost, 1, 0, cost);
      bought("more", x, cost + 1, 1, 0, cost);
    }
    CoinNotThere two = behind(slip(3));
    two.cover(3, 1, 3, 60);
    two.cover(3, 0, 3, 99);
    bought("not both", two, 158, 2, 44, 99);
    bought("just both: 1 of 14", two, 159, 3, 31, 159);
  }

  /** No COVERS, none that can be bought, none that helps: the empty set, SEES BARE, no COST. */
  private static void p22EmptySet() {
    bought("nothing at all", new CoinNotThere(), 0, 0, 0, 0);
    bought("nothing at all", new CoinNotThere(), 999, 0, 0, 0);
    bought("no COVERS", behind(slip(3)), 999, 0, 111, 0);
    CoinNotThere worse = behind(slip(3));
    worse.cover(3, 0, 2, 0);
    bought("it would be worse", worse, 999, 0, 111, 0);
    CoinNotThere dear = behind(slip(3));
    dear.cover(3, 3, 0, 1);
    bought("too dear", dear, 0, 0, 111, 0);
  }

  /** "of like ones the least COST, then the least set". */
  private static void p22LikeOnes() {
    CoinNotThere cost = behind(slip(3));
    cost.cover(3, 3, 0, 3);
    cost.cover(3, 3, 0, 2);
    cost.cover(3, 3, 0, 1);
    bought("the least COST", cost, 999, 4, 0, 1);
    bought("the least COST", cost, 1, 4, 0, 1);
    CoinNotThere set = behind(slip(3));
    set.cover(0, 0, 0, 0);
    set.cover(3, 3, 0, 0);
    set.cover(3, 3, 0, 0);
    bought("the least set, none of no use", set, 0, 2, 0, 0);
    CoinNotThere free = behind(slip(3));
    free.cover(9, 0, 0, 0);
    bought("of no use and free: the empty set", free, 0, 0, 111, 0);
    CoinNotThere seesFirst = behind(slip(3));
    seesFirst.cover(3, 1, 3, 0);
    seesFirst.cover(3, 3, 0, 99);
    bought("SEES ahead of COST", seesFirst, 99, 2, 0, 99);
    bought("while it can be bought", seesFirst, 98, 1, 55, 0);
    CoinNotThere sumFirst = behind(slip(3));
    sumFirst.cover(3, 3, 0, 7);
    sumFirst.cover(3, 0, 3, 3);
    sumFirst.cover(3, 3, 0, 7);
    bought("COST ahead of the least set", sumFirst, 999, 1, 0, 7);
  }

  /** "COVERS 0 .. 7": all of them, at the greatest COST, are 255 for 792. */
  private static void p22AllEight() {
    CoinNotThere x = new CoinNotThere();
    x.watcher(0, 0);
    for (int c = 0; c < 8; c++) {
      x.act(2 * c, 1, 2, 4);
      x.cover(2 * c, 1, 3, 99);
    }
    bought("all", x, 999, 255, 8 * 55, 792);
    bought("just all", x, 792, 255, 8 * 55, 792);
    bought("all but one: the least set", x, 791, 127, 7 * 55 + 111, 693);
    bought("one", x, 99, 1, 55 + 7 * 111, 99);
    bought("none", x, 98, 0, 8 * 111, 0);
  }

  /** "from where no WATCHER can see a PLACE of a SLIP": all COLUMNS if there is no SLIP or nobody. */
  private static void p23EmptyAndFull() {
    edges.changesNothing("stances: nothing at all", NEW, x -> x.stances(), 15);
    edges.answers("stances: no SLIP", x -> Due.seat(x, "0p;1p;2p;3p"), x -> x.stances(), 15);
    edges.answers("stances: nobody", x -> { for (int b = 0; b < 16; b++) x.act(b, 1, 2, 9); }, x -> x.stances(), 15);
    edges.answers("stances: MOVES are no SLIPS", x -> { x.watcher(0, 0); x.act(0, 0, 2, 9); }, x -> x.stances(), 15);
    edges.changesNothing("stances: a SLIP at THE HEAD", slip(15), x -> x.stances(), 0);
    edges.changesNothing("stances: he STANDS where he did", RICH, x -> x.stances(), 0);
  }

  /** "as a set of COLUMNS": by each SEAT and PLACE, in the first and in the last BEAT, however he STANDS now. */
  private static void p23EachSeatAndPlace() {
    int[][] sets = {{0, 0, 1, 3}, {12, 8, 0, 0}, {0, 0, 0, 0}, {0, 0, 0, 0}};
    for (int seat = 0; seat < 12; seat++) {
      for (int place = 0; place < 4; place++) {
        for (int beat : new int[] {0, 15}) {
          CoinNotThere x = new CoinNotThere();
          x.watcher(seat, seat % 4);
          x.stand((seat + place) % 4);
          x.act(beat, 1, place, 1);
          edges.is("stances: PLACE " + place + " from SEAT " + seat, x.stances(), sets[place][seat % 4]);
        }
      }
    }
  }

  /** "from where no WATCHER can see a PLACE of a SLIP": one who can is enough, whenever he came. */
  private static void p23OneWhoCanSee() {
    int[] cannot = {0, 4, 8, 1, 5, 9};
    for (int at = -1; at <= 6; at++) {
      CoinNotThere x = new CoinNotThere();
      x.act(7, 1, 1, 9);
      for (int w = 0; w <= 6; w++) {
        if (w == at) x.watcher(3, 0);
        if (w < 6) x.watcher(cannot[w], 0);
      }
      edges.is("stances: one who can see is WATCHER " + at, x.stances(), at < 0 ? 8 : 0);
    }
  }

  /** "SEES of a number (0 .. 99999)". */
  private static void p24Ranges() {
    edges.range("often", RICH, (x, a) -> x.often(a[0]), new int[] {0}, 0, 0, 99999, BAD);
    edges.range("often, nothing at all", NEW, (x, a) -> x.often(a[0]), new int[] {0}, 0, 0, 99999, BAD);
  }

  /** "the greatest k by which SEES are no more than told". */
  private static void p24NoMoreThanTold() {
    CoinNotThere x = behind(slip(3));
    int[] sees = {111, 222, 277, 311, 333, 349, 361, 370, 377};
    for (int k = 1; k < 10; k++) {
      edges.is("often: just k", x.often(sees[k - 1]), k);
      edges.is("often: one less", x.often(sees[k - 1] - 1), k - 1);
      edges.is("often: one more", x.often(sees[k - 1] + 1), k);
    }
  }

  /** "(0: not once)", and 9 at most. */
  private static void p24NotOnceAndNine() {
    edges.changesNothing("often: not once", slip(3), x -> x.often(0), 0);
    edges.changesNothing("often: not once", slip(3), x -> x.often(110), 0);
    edges.changesNothing("often: once", slip(3), x -> x.often(111), 1);
    edges.changesNothing("often: 9", slip(3), x -> x.often(377), 9);
    edges.changesNothing("often: no more than 9", slip(3), x -> x.often(99999), 9);
    edges.answers("often: nothing to be seen", NEW, x -> x.often(0), 9);
    edges.answers("often: nobody", x -> x.act(0, 1, 0, 9), x -> x.often(0), 9);
    edges.answers("often: LEARN 0", x -> { slip(3).of(x); x.habit(3, 0); }, x -> x.often(111), 9);
    edges.answers("often: LEARN 0", x -> { slip(3).of(x); x.habit(3, 0); }, x -> x.often(110), 0);
    edges.answers("often: LEARN 9: 10 of 13 the second time", x -> { slip(3).of(x); x.habit(3, 9); }, x -> x.often(340), 1);
    edges.answers("often: LEARN 9: 10 of 13 the second time", x -> { slip(3).of(x); x.habit(3, 9); }, x -> x.often(341), 2);
  }

  /** "SEES, if all that are PLAIN were WARNED (DOUBT 3), less SEES as it is": 0 without them; below 0, above 0. */
  private static void p25Warning() {
    edges.changesNothing("warning: nothing at all", NEW, x -> x.warning(), 0);
    edges.answers("warning: no SLIP", x -> x.watcher(0, 0), x -> x.warning(), 0);
    edges.answers("warning: nobody", x -> x.act(0, 1, 0, 9), x -> x.warning(), 0);
    for (int kind = 1; kind < 4; kind++) {
      int k = kind;
      edges.answers("warning: KIND " + kind, x -> { x.watcher(0, k); x.doubt(0, 9); x.act(0, 1, 0, 9); }, x -> x.warning(), 0);
    }
    edges.changesNothing("warning: at THE HEAD: 1 of 10, of 4", slip(3), x -> x.warning(), 44 - 111);
    Digest.Past atRight = x -> { x.watcher(0, 0); x.act(3, 1, 0, 4); };
    edges.changesNothing("warning: at THE RIGHT: 4 of 10, 1 of 4", atRight, x -> x.warning(), 177 - 111);
    Digest.Past besides = x -> { x.watcher(1, 1); x.doubt(0, 9); atRight.of(x); x.watcher(2, 1); x.doubt(2, 0); };
    edges.changesNothing("warning: other DOUBTS stay", besides, x -> x.warning(), 177 - 111);
    edges.answers("warning: 1.23 less 3.08, each cut", x -> {
      x.watcher(0, 0);
      x.habit(2, 1);
      x.cue(0, 2, 1);
      x.act(1, 1, 2, 1);
    }, x -> x.warning(), 1 - 3);
    edges.answers("warning: all 8", x -> { Due.seat(x, "0p;1p;2p;3p;4p;5p;6p;7p"); x.act(0, 1, 2, 4); }, x -> x.warning(),
        4 * (44 - 111) + 4 * (33 - 83));
  }

  /** "SHOWN at a BEAT (0 .. 15; what is left); BEST SHOWN (-1: the BEAT)". */
  private static void p26Ranges() {
    edges.range("shown", RICH, (x, a) -> x.shown(a[0]), new int[] {0}, 0, -1, 15, BAD);
    edges.range("shown, nothing at all", NEW, (x, a) -> x.shown(a[0]), new int[] {0}, 0, -1, 15, BAD);
  }

  /** "of each SLIP ahead of it": not of one in that BEAT, nor of one behind it. */
  private static void p26AheadOfIt() {
    for (int beat = 0; beat < 16; beat++) {
      CoinNotThere x = behind(slip(beat));
      x.habit(4, 1);
      for (int b = 0; b < 16; b++) {
        int later = b - beat;
        edges.is("shown(" + b + "): a SLIP in BEAT " + beat, x.shown(b), later < 1 || later > 9 ? 0 : 111 * (10 - later) / 10);
      }
    }
    for (int b = 0; b < 16; b++) edges.is("shown: no SLIP", new CoinNotThere().shown(b), 0);
  }

  /** "(10 less FORGET times how many BEATS later it is, 0 at least) by 10, cut": FORGET 0 .. 10. */
  private static void p26NoneAtLeast() {
    int[][] left = {{111, 111, 111, 111}, {99, 88, 77, 66}, {88, 66, 44, 22}, {77, 44, 11, 0}, {66, 22, 0, 0}, {55, 0, 0, 0}, {44, 0, 0, 0},
        {33, 0, 0, 0}, {22, 0, 0, 0}, {11, 0, 0, 0}, {0, 0, 0, 0}};
    for (int forget = 0; forget <= 10; forget++) {
      CoinNotThere x = behind(slip(0));
      x.habit(4, forget);
      for (int later = 1; later <= 4; later++) {
        edges.is("shown: FORGET " + forget + ", " + later + " later", x.shown(later), left[forget][later - 1]);
      }
      edges.is("shown: FORGET " + forget + ", 15 later", x.shown(15), forget == 0 ? 111 : 0);
    }
    CoinNotThere two = behind(slip(0));
    two.act(1, 1, 2, 4);
    two.habit(4, 6);
    edges.is("shown: none is below 0 for the other", two.shown(2), 44);
    two.habit(4, 1);
    edges.is("shown: each is cut: 88.8, 99.9", two.shown(2), 88 + 99);
  }

  /** "NONE: no BEAT is behind the last SLIP, there is none (-1)"; at a BEAT it is no refusal. */
  private static void p26NoBeatBehindTheLastSlip() {
    edges.changesNothing("shown: no SLIP", NEW, x -> x.shown(-1), NONE);
    edges.changesNothing("shown: no SLIP any more", x -> { slip(3).of(x); x.act(3, 1, 0, 0); }, x -> x.shown(-1), NONE);
    edges.changesNothing("shown: the last SLIP in BEAT 15", slip(15), x -> x.shown(-1), NONE);
    edges.changesNothing("shown: the last of two in BEAT 15", x -> { slip(15).of(x); x.act(0, 1, 2, 4); }, x -> x.shown(-1), NONE);
    edges.changesNothing("shown: at BEAT 15", slip(15), x -> x.shown(15), 0);
    edges.changesNothing("shown: the last SLIP in BEAT 14", slip(14), x -> x.shown(-1), 15);
    edges.changesNothing("shown: nobody is there", x -> x.act(15, 1, 0, 1), x -> x.shown(-1), NONE);
    edges.answers("shown: nobody is there, the next BEAT", x -> x.act(4, 1, 0, 1), x -> x.shown(-1), 5);
    for (int beat : new int[] {-2, 16}) edges.changesNothing("shown: no SLIP and wrong", NEW, x -> x.shown(beat), BAD);
  }

  /** "the first BEAT behind the last SLIP by which that is least". */
  private static void p26FirstBeatByWhichLeast() {
    int[] later = {1, 10, 5, 4, 3, 2, 2, 2, 2, 2, 1};
    for (int forget = 0; forget <= 10; forget++) {
      for (int beat = 0; beat < 15; beat++) {
        CoinNotThere x = behind(slip(beat));
        x.habit(4, forget);
        int best = beat + later[forget];
        edges.is("shown: best, FORGET " + forget + ", SLIP in " + beat, x.shown(-1), Math.min(15, best));
      }
    }
    CoinNotThere two = behind(slip(0));
    two.act(8, 1, 0, 1);
    two.leave(0);
    two.watcher(3, 0);
    edges.is("shown: behind the last SLIP, though nobody sees that", two.shown(-1), 9);
  }

  /** "BEATS with PLACES". */
  private static void p27Ranges() {
    Edges.Row point = (x, a) -> x.point(a[0], a[1]);
    edges.range("point", RICH, point, new int[] {7, 1}, 0, 0, 15, BAD);
    edges.range("point", RICH, point, new int[] {7, 1}, 1, 0, 3, BAD);
  }

  /** "how many there are", "FULL: 24", behind BAD; like ones count each. */
  private static void p27TwentyFour() {
    CoinNotThere x = new CoinNotThere();
    for (int many = 1; many <= 24; many++) edges.is("point: how many", x.point(15, 3), many);
    edges.is("point: one more", x.point(15, 3), FULL);
    edges.changesNothing("point: one more", CROWDED, y -> y.point(0, 0), FULL);
    edges.changesNothing("point: 24 and no BEAT", CROWDED, y -> y.point(16, 0), BAD);
    edges.changesNothing("point: 24 and no BEAT", CROWDED, y -> y.point(-1, 0), BAD);
    edges.changesNothing("point: 24 and no PLACE", CROWDED, y -> y.point(0, 4), BAD);
    edges.changesNothing("point: 24 and no PLACE", CROWDED, y -> y.point(0, -1), BAD);
    edges.answers("point: room again", y -> { CROWDED.of(y); y.clear(); }, y -> y.point(0, 0), 1);
  }

  /** "THE LOOK that fits (0), on how many POINTS (1)". */
  private static void p28Ranges() {
    edges.range("fits", RICH, (x, a) -> x.fits(a[0]), new int[] {0}, 0, 0, 1, BAD);
  }

  /** "NOT: there are no POINTS", behind BAD. */
  private static void p28NoPoints() {
    Digest.Past none = x -> { RICH.of(x); x.clear(); };
    for (int what = 0; what < 2; what++) {
      int w = what;
      edges.changesNothing("fits: no POINTS", NEW, x -> x.fits(w), NOT);
      edges.changesNothing("fits: no POINTS any more", none, x -> x.fits(w), NOT);
    }
    for (int what : new int[] {-1, 2}) edges.changesNothing("fits: no POINTS and wrong", none, x -> x.fits(what), BAD);
    edges.answers("fits: one POINT", x -> { none.of(x); x.point(11, 0); }, x -> x.fits(1), 1);
  }

  private static void fits(String of, CoinNotThere x, int look, int on) {
    edges.is("fits: " + of, x.fits(0), look);
    edges.is("fits: " + of + ", on how many", x.fits(1), on);
  }

  /** "LOOK (0 .. 9) by which most of them are on a PLACE that has the greatest PULL .., of like ones the least". */
  private static void p28LookFromNoneToNine() {
    for (int size = 1; size < 10; size++) {
      CoinNotThere x = new CoinNotThere();
      x.act(15, 0, 0, size);
      x.cue(15, 0, 3);
      x.point(15, 3);
      fits("as much as a MOVE of " + size, x, size, 1);
      x.habit(0, 9 - size);
      fits("whatever LOOK is now", x, size, 1);
      edges.is("fits: LOOK as it was", x.habit(0, 0), 9 - size);
      x.point(15, 0);
      fits("a tie is on both", x, size, 2);
      x.clear();
      x.point(15, 0);
      fits("the least that fits", x, 0, 1);
    }
    CoinNotThere there = new CoinNotThere();
    there.cue(0, 0, 3);
    there.point(0, 3);
    fits("where he LOOKS, by each LOOK alike", there, 0, 1);
    CoinNotThere none = new CoinNotThere();
    none.cue(0, 0, 3);
    none.point(0, 1);
    fits("LOOK 0 alone", none, 0, 1);
    none.point(0, 3);
    fits("LOOK 0 for both", none, 0, 2);
    CoinNotThere like = new CoinNotThere();
    Due.tell(like, "0:m02l3;1:m07l3");
    like.point(0, 3);
    like.point(1, 0);
    fits("2 .. 7 are alike", like, 2, 2);
    like.point(1, 3);
    like.point(1, 3);
    fits("7: all of them", like, 7, 4);
  }

  /** No LOOK fits any POINT: 0, on 0; 24 POINTS at once; "on a PLAIN one", whoever is there. */
  private static void p28NoneFitsAllFit() {
    CoinNotThere none = new CoinNotThere();
    none.act(0, 0, 0, 9);
    none.cue(0, 1, 0);
    none.cue(0, 0, 3);
    none.point(0, 3);
    fits("13 draw elsewhere", none, 0, 0);
    none.habit(1, 0);
    fits("10 draw elsewhere", none, 9, 1);
    none.watcher(0, 2);
    none.habit(1, 1);
    fits("NAME counts, though a CHILD is there", none, 0, 0);
    none.leave(0);
    none.watcher(0, 1);
    none.doubt(0, 9);
    none.habit(1, 0);
    fits("no DOUBT counts, though a WARNED one is there", none, 9, 1);
    none.act(0, 1, 0, 9);
    none.habit(3, 9);
    fits("it is the first time", none, 9, 1);
    for (int at = 0; at < 24; at++) {
      CoinNotThere x = new CoinNotThere();
      for (int i = 0; i < 24; i++) x.point(i == at ? 15 : 1, i == at ? 3 : 2);
      fits("all 24", x, 0, 24);
      x.act(15, 0, 2, 1);
      fits("all but POINT " + at, x, 0, 23);
      x.act(15, 0, 3, 1);
      fits("all 24 again", x, 0, 24);
      x.act(1, 0, 0, 1);
      fits("POINT " + at + " alone", x, 0, 1);
    }
    edges.answers("fits: all 24", x -> { for (int i = 0; i < 24; i++) x.point(i % 16, i % 4); }, x -> x.fits(1), 24);
    edges.answers("fits: all 24", x -> { for (int i = 0; i < 24; i++) x.point(i % 16, i % 4); }, x -> x.fits(0), 0);
  }

  /** "four counts (0 .. 999 each)", "BAD less 100000". */
  private static void p29Ranges() {
    Edges.Row apart = (x, a) -> x.apart(a[0], a[1], a[2], a[3]);
    for (int arg = 0; arg < 4; arg++) {
      edges.range("apart", NEW, apart, new int[] {1, 2, 3, 4}, arg, 0, 999, FAR);
      edges.range("apart, all 0", NEW, apart, new int[] {0, 0, 0, 0}, arg, 0, 999, FAR);
      edges.range("apart, all 999", RICH, apart, new int[] {999, 999, 999, 999}, arg, 0, 999, FAR);
    }
  }

  private static void apart(int a, int b, int c, int d, int want) {
    edges.changesNothing("apart(" + a + ", " + b + ", " + c + ", " + d + ")", NEW, x -> x.apart(a, b, c, d), want);
  }

  /** "(.. a share of none is 0)": of those who looked, of those who looked elsewhere, of both. */
  private static void p29ShareOfNone() {
    apart(0, 0, 0, 0, 0);
    apart(0, 0, 1, 0, -1000);
    apart(0, 0, 999, 999, -500);
    apart(0, 0, 0, 999, 0);
    apart(1, 0, 0, 0, 1000);
    apart(999, 999, 0, 0, 500);
    apart(0, 999, 0, 0, 0);
  }

  /** "by how many thousandths (shares cut ..)": each share for itself; told from -1000 to 1000, -1 as well. */
  private static void p29Cut() {
    apart(999, 0, 0, 999, 1000);
    apart(0, 999, 999, 0, -1000);
    apart(2, 1, 1, 2, 666 - 333);
    apart(1, 2, 2, 1, 333 - 666);
    apart(1, 999, 0, 1, 1);
    apart(1, 999, 2, 998, -1);
    apart(1, 998, 0, 1, 1);
    apart(998, 1, 999, 0, 998 - 1000);
    apart(999, 1, 999, 0, -1);
    apart(999, 999, 999, 999, 0);
    apart(1, 2, 333, 666, 0);
    apart(1, 6, 1, 7, 142 - 125);
  }

  /** "COVERS, POINTS go: how many, together": 0 to 32; nothing else goes. */
  private static void p30Clear() {
    edges.changesNothing("clear: nothing", NEW, x -> x.clear(), 0);
    edges.answers("clear: all", CROWDED, x -> x.clear(), 32);
    edges.answers("clear: COVERS alone", x -> x.cover(0, 0, 0, 0), x -> x.clear(), 1);
    edges.answers("clear: POINTS alone", x -> x.point(0, 0), x -> x.clear(), 1);
    edges.changesNothing("clear: again", x -> { CROWDED.of(x); x.clear(); }, x -> x.clear(), 0);
    edges.answers("clear: no COVERS", x -> { CROWDED.of(x); x.clear(); }, x -> x.count(4), 0);
    edges.answers("clear: no POINTS", x -> { CROWDED.of(x); x.clear(); }, x -> x.count(5), 0);
    edges.alike("clear: all else stays", x -> { Due.seat(x, "0p;1w"); Due.tell(x, "0:m11l1n1jx11"); x.image(); x.sheet(0, 0, 3); x.type(48, 1); },
        x -> { Due.seat(x, "0p;1w"); Due.tell(x, "0:m11l1n1jx11"); x.image(); x.sheet(0, 0, 3); x.type(48, 1);
          x.cover(0, 1, 1, 1); x.point(0, 0); x.clear(); });
    edges.answers("clear: the IMAGE's stay", x -> { CROWDED.of(x); x.image(); x.clear(); x.restore(); }, x -> x.clear(), 32);
  }

  /** "All but SHEETS, THE TAPE is kept as an IMAGE: 1": of nothing at all, and over and over. */
  private static void p31Image() {
    edges.answers("image: of nothing", NEW, x -> x.image(), 1);
    edges.answers("image: again", RICH, x -> x.image(), 1);
    edges.alike("image: of nothing at all", x -> x.image(), x -> { x.image(); Due.seat(x, "0p"); x.act(0, 1, 0, 9); x.point(0, 0); x.restore(); });
    edges.alike("image: the later one", x -> { CROWDED.of(x); x.image(); }, x -> { RICH.of(x); x.image(); x.restore(); Edges.more(x); x.image(); });
    edges.alike("image: alone changes nothing but itself", x -> { CROWDED.of(x); x.image(); },
        x -> { CROWDED.of(x); x.image(); x.image(); x.image(); });
  }

  /** "NONE: there is none". */
  private static void p32NoImage() {
    edges.changesNothing("restore: no IMAGE", NEW, x -> x.restore(), NONE);
    edges.changesNothing("restore: no IMAGE", x -> { Due.seat(x, "0p;1w"); x.act(0, 1, 0, 9); x.cover(0, 0, 0, 0); x.point(0, 0);
      x.sheet(0, 0, 1); x.type(48, 1); }, x -> x.restore(), NONE);
    edges.answers("restore: an IMAGE of nothing", x -> x.image(), x -> x.restore(), 1);
  }

  /** "All is as it was then: 1": from more and from less, over and over; but SHEETS and THE TAPE are as they are. */
  private static void p32AllAsItWas() {
    Digest.Past kept = x -> { CROWDED.of(x); x.image(); };
    edges.changesNothing("restore: at once", kept, x -> x.restore(), 1);
    edges.alike("restore: from less", kept, x -> {
      kept.of(x);
      while (x.count(0) > 0) x.leave(0);
      for (int b = 0; b < 16; b++) { x.act(b, 0, 0, 0); x.act(b, 1, 0, 0); x.cue(b, 0, -1); x.cue(b, 1, -1); x.cue(b, 2, 0); }
      for (int law = 0; law < 5; law++) x.habit(law, 0);
      x.stand(0);
      x.clear();
      x.restore();
    });
    Digest.Past little = x -> { x.watcher(5, 1); x.doubt(0, 8); x.act(0, 1, 0, 1); x.image(); };
    edges.alike("restore: from more, twice", little, x -> {
      little.of(x);
      for (int times = 0; times < 2; times++) {
        Due.seat(x, "0p;1w;2c;3x");
        x.doubt(0, 1);
        for (int b = 0; b < 16; b++) { x.act(b, 0, 1, 9); x.act(b, 1, 1, 9); x.cue(b, 0, 1); x.cue(b, 1, 1); x.cue(b, 2, 1); }
        for (int law = 0; law < 5; law++) x.habit(law, 9);
        x.stand(3);
        for (int c = 0; c < 8; c++) x.cover(c, 0, 0, 1);
        for (int p = 0; p < 24; p++) x.point(0, 0);
        x.restore();
      }
    });
    edges.alike("restore: from as many others", kept, x -> {
      kept.of(x);
      x.clear();
      for (int c = 0; c < 8; c++) x.cover(9, 2, 3, 55);
      for (int p = 0; p < 24; p++) x.point(9, 3);
      for (int w = 0; w < 8; w++) x.leave(0);
      for (int w = 0; w < 8; w++) x.watcher(2 + w, 1);
      for (int w = 0; w < 8; w++) x.doubt(w, 1);
      x.restore();
    });
    edges.alike("restore: SHEETS and THE TAPE stay", x -> { little.of(x); x.sheet(0, 2, 3); x.item(0, 2, 1, 2); Due.type(x, "0:j"); },
        x -> { little.of(x); x.sheet(0, 2, 3); x.item(0, 2, 1, 2); Due.type(x, "0:j"); x.restore(); });
    edges.alike("restore: SHEETS are not in the IMAGE", x -> { x.image(); }, x -> { x.sheet(0, 0, 1); x.type(48, 1); x.image(); x.drop(0);
      x.routine(); x.restore(); });
  }

  /** "(All else is told without COVERS.)", and no question leaves anything behind. */
  private static void questionsChangeNothing() {
    Edges.Call[] asked = {x -> x.told(0, 2), x -> x.count(1), x -> x.pull(0, 0, 1, 9), x -> x.heed(0, 15), x -> x.can(0, 0),
        x -> x.odds(0, 0, 1, 0), x -> x.sees(-1, 9), x -> x.quiet(0, 0), x -> x.quiet(0, 1), x -> x.does(7, 0), x -> x.does(0, 1),
        x -> x.bought(999, 0), x -> x.bought(0, 1), x -> x.bought(99, 2), x -> x.stances(), x -> x.often(99999), x -> x.warning(),
        x -> x.shown(-1), x -> x.shown(15), x -> x.fits(0), x -> x.fits(1), x -> x.apart(1, 2, 3, 4)};
    for (int i = 0; i < asked.length; i++) {
      Edges.Call call = asked[i];
      edges.alike("question " + i + " changes something", CROWDED, x -> { CROWDED.of(x); call.on(x); });
    }
    CoinNotThere bare = behind(slip(3)), covered = behind(slip(3));
    for (int kind = 0; kind < 4; kind++) covered.cover(3, kind, 0, 0);
    for (int i = 0; i < asked.length; i++) {
      if (i >= 9 && i <= 13) continue;
      edges.is("question " + i + " is told without COVERS", asked[i].on(covered), asked[i].on(bare));
    }
  }
}
