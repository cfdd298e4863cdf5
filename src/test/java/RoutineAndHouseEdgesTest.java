/** Promises 1 to 13 at their boundaries: each test names the sentence of the document that it holds. */
public final class RoutineAndHouseEdgesTest {
  private static final Edges edges = new Edges();
  private static final int BAD = -1, NOT = -2, FULL = -3, CAST = -12;
  private static final Digest.Past NEW = Edges.NEW, RICH = Edges.RICH, CROWDED = Edges.CROWDED;

  public static void main(String[] args) {
    digestTellsPastsApart();
    p1EmptyHouse();
    p1NothingTold();
    p1SheetsHoldNothing();
    p1EachForItself();
    the512thCall();
    p2Ranges();
    p2WhatItWas();
    p2SizeNone();
    p2OneOfEachInABeat();
    p3Ranges();
    p3WhatItWas();
    p3EachForItself();
    p4Columns();
    p5Laws();
    p6Ranges();
    p6SeatIsTaken();
    p6Eight();
    p6NotAheadOfFull();
    p6BadAheadOfAll();
    p7Ranges();
    p7AnotherKind();
    p7BadAheadOfCast();
    p7ThreeAtFirst();
    p8Ranges();
    p8HeedBehindTheLastBeat();
    p9Ranges();
    p9ThoseBehindGoOneDown();
    p9ToNoneAndBack();
    p10HowManyBytes();
    p10WhichBytes();
    p10LowestBytesHighestFirst();
    p10Hundred();
    p10BadAheadOfFull();
    p13Ranges();
    p13EmptyAndFull();
    edges.end();
  }

  /** The digest that "changes nothing" rests on is not blind. */
  private static void digestTellsPastsApart() {
    Digest.Past[] more = {x -> x.act(5, 0, 0, 1), x -> x.act(5, 1, 3, 9), x -> x.act(0, 1, 0, 0), x -> x.cue(1, 0, 0), x -> x.cue(1, 1, 3),
        x -> x.cue(15, 2, 1), x -> x.stand(0), x -> x.habit(0, 5), x -> x.habit(4, 10), x -> x.watcher(3, 0), x -> x.doubt(1, 6),
        x -> x.leave(4), x -> x.type(32, 1), x -> x.routine(), x -> x.house(), x -> x.cover(0, 0, 2, 40), x -> x.cover(9, 3, 0, 0),
        x -> x.point(0, 0), x -> x.point(15, 3), x -> x.clear(), x -> x.image(), x -> x.restore(), x -> x.sheet(3, 0, 0),
        x -> x.sheet(0, 1, 5), x -> x.sheet(1, 1, 16), x -> x.drop(2), x -> x.item(0, 0, 4, 2), x -> x.item(1, 1, 15, -1),
        x -> x.copy(1, 0, 1, 1, 1), x -> x.eyes(0, 1, 1, 0, 1)};
    for (int i = 0; i < more.length; i++) {
      Digest.Past one = more[i];
      edges.unlike("change " + i, RICH, x -> { RICH.of(x); one.of(x); });
    }
    edges.alike("the same past twice", RICH, x -> RICH.of(x));
  }

  /** "An empty house": there is no WATCHER 0 for any call. */
  private static void p1EmptyHouse() {
    edges.changesNothing("new: doubt", NEW, x -> x.doubt(0, 0), BAD);
    edges.changesNothing("new: told", NEW, x -> x.told(0, 0), BAD);
    edges.changesNothing("new: leave", NEW, x -> x.leave(0), BAD);
    edges.changesNothing("new: pull", NEW, x -> x.pull(0, 0, 0, 1), BAD);
    edges.changesNothing("new: heed", NEW, x -> x.heed(0, 0), BAD);
    edges.changesNothing("new: odds", NEW, x -> x.odds(0, 0, 1, 0), BAD);
    edges.answers("new: the first WATCHER", NEW, x -> x.watcher(11, 3), 0);
  }

  /** "nothing told". */
  private static void p1NothingTold() {
    CoinNotThere x = new CoinNotThere();
    for (int what = 0; what < 6; what++) edges.is("new: count(" + what + ")", x.count(what), 0);
    for (int beat = 0; beat < 16; beat++) {
      edges.is("new: SEES", x.sees(beat, 1), NOT);
      edges.is("new: QUIETEST", x.quiet(beat, 0), NOT);
      edges.is("new: SHOWN", x.shown(beat), 0);
      edges.is("new: MOVE", x.act(beat, 0, 0, 0), 0);
      edges.is("new: SLIP", x.act(beat, 1, 0, 0), 0);
      edges.is("new: LOOKS", x.cue(beat, 0, -1), 0);
      edges.is("new: NAMES", x.cue(beat, 1, -1), 0);
      edges.is("new: JOKE", x.cue(beat, 2, 0), 1);
    }
    edges.answers("new: THE TAPE", NEW, y -> y.type(32, 1), 1);
    edges.answers("new: IMAGE", NEW, y -> y.restore(), -4);
    edges.answers("new: STANDS", NEW, y -> y.stand(0), 1);
  }

  /** "sheets 0 .. 3: nothing (at first)". */
  private static void p1SheetsHoldNothing() {
    for (int sheet = 0; sheet < 4; sheet++) {
      int s = sheet;
      edges.changesNothing("new: drop", NEW, x -> x.drop(s), -11);
      edges.changesNothing("new: item", NEW, x -> x.item(s, 0, 0, 0), -11);
      edges.changesNothing("new: eyes", NEW, x -> x.eyes(0, s, 0, 0, 1), -11);
      edges.changesNothing("new: copy", NEW, x -> x.copy(s, 0, s, 0, 0), -11);
    }
  }

  /** "A new object": what is told to another one is not told to it. */
  private static void p1EachForItself() {
    edges.alike("new: beside another one", NEW, x -> CROWDED.of(new CoinNotThere()));
    edges.alike("new: behind another one", x -> RICH.of(x), x -> {
      CROWDED.of(new CoinNotThere());
      RICH.of(x);
      CROWDED.of(new CoinNotThere());
    });
  }

  /** "An object is used for at most 512 calls after it has been made": the 512th is still answered as the first. */
  private static void the512thCall() {
    CoinNotThere stands = new CoinNotThere(), types = new CoinNotThere(), comes = new CoinNotThere(), kept = new CoinNotThere();
    for (int call = 1; call <= 512; call++) {
      edges.is("stand: call " + call, stands.stand(call % 4), call == 1 ? 1 : (call - 1) % 4);
      edges.is("type: call " + call, types.type(0x2020202020202020L, 8), call <= 12 ? 8 * call : FULL);
      int inHouse = call % 9;
      edges.is("watcher, leave: call " + call, inHouse == 0 ? comes.watcher(0, 0) : inHouse == 8 ? comes.leave(0) : comes.watcher(0, 1),
          inHouse == 8 ? 0 : call == 1 || inHouse == 0 ? 0 : NOT);
      edges.is("image, restore: call " + call, call % 2 == 0 ? kept.restore() : kept.image(), 1);
    }
  }

  /** "BEATS 0 .. 15", "MOVE (0), SLIP (1)", "PLACES are 0 .. 3", "a SIZE 1 .. 9", "(SIZE 0: none)". */
  private static void p2Ranges() {
    Edges.Row act = (x, a) -> x.act(a[0], a[1], a[2], a[3]);
    for (int what = 0; what < 2; what++) {
      int[] row = {4, what, 1, 5};
      edges.range("act", RICH, act, row, 0, 0, 15, BAD);
      edges.range("act", RICH, act, row, 2, 0, 3, BAD);
      edges.range("act", RICH, act, row, 3, 0, 9, BAD);
    }
    edges.range("act", RICH, act, new int[] {0, 0, 0, 1}, 1, 0, 1, BAD);
    edges.range("act, SIZE 0", RICH, act, new int[] {0, 1, 0, 0}, 2, 0, 3, BAD);
    edges.range("act, SIZE 0", RICH, act, new int[] {0, 1, 0, 0}, 0, 0, 15, BAD);
    edges.range("act, SIZE 0", RICH, act, new int[] {0, 1, 0, 0}, 1, 0, 1, BAD);
  }

  /** "what it was, as 10 PLACE and SIZE (0: none)": least 1, greatest 39, in the first and in the last BEAT. */
  private static void p2WhatItWas() {
    for (int what = 0; what < 2; what++) {
      for (int beat = 0; beat < 16; beat += 15) {
        CoinNotThere x = new CoinNotThere();
        int was = 0;
        for (int code = 1; code < 40; code++) {
          if (code % 10 == 0) continue;
          edges.is("act: was", x.act(beat, what, code / 10, code % 10), was);
          edges.is("act: it is one alone", x.count(2 - what), 1);
          was = code;
        }
        edges.is("act: the last", x.act(beat, what, 0, 0), 39);
      }
    }
  }

  /** "(SIZE 0: none)": whatever the PLACE; none again is none. */
  private static void p2SizeNone() {
    for (int what = 0; what < 2; what++) {
      for (int place = 0; place < 4; place++) {
        CoinNotThere x = new CoinNotThere();
        edges.is("act: none, where none was", x.act(7, what, place, 0), 0);
        edges.is("act: none is none", x.count(2 - what), 0);
        x.act(7, what, 0, 1);
        edges.is("act: none, where one was", x.act(7, what, place, 0), 1);
        edges.is("act: one is gone", x.count(2 - what), 0);
        edges.is("act: none is left", x.act(7, what, 0, 0), 0);
      }
    }
  }

  /** "In a BEAT each of these may be told": a MOVE and a SLIP leave one another alone; all BEATS may have both. */
  private static void p2OneOfEachInABeat() {
    CoinNotThere x = new CoinNotThere();
    for (int beat = 0; beat < 16; beat++) {
      edges.is("act: MOVE", x.act(beat, 0, beat % 4, 1 + beat % 9), 0);
      edges.is("act: SLIP", x.act(beat, 1, 3 - beat % 4, 9 - beat % 9), 0);
    }
    edges.is("act: 16 MOVES", x.count(2), 16);
    edges.is("act: 16 SLIPS", x.count(1), 16);
    for (int beat = 0; beat < 16; beat++) {
      edges.is("act: SLIP of its BEAT", x.act(beat, 1, 0, 0), 10 * (3 - beat % 4) + 9 - beat % 9);
      edges.is("act: MOVE of its BEAT", x.act(beat, 0, 0, 0), 10 * (beat % 4) + 1 + beat % 9);
    }
  }

  /** "where he LOOKS (0), what he NAMES (1) becomes a PLACE (-1: none), a JOKE (2) becomes one (1) or none (0)". */
  private static void p3Ranges() {
    Edges.Row cue = (x, a) -> x.cue(a[0], a[1], a[2]);
    for (int what = 0; what < 3; what++) {
      edges.range("cue", RICH, cue, new int[] {3, what, 1}, 0, 0, 15, BAD);
      edges.range("cue", RICH, cue, new int[] {3, what, 1}, 2, what == 2 ? 0 : -1, what == 2 ? 1 : 3, BAD);
    }
    edges.range("cue", RICH, cue, new int[] {3, 0, 1}, 1, 0, 2, BAD);
    edges.changesNothing("cue: no JOKE of 2", RICH, x -> x.cue(0, 2, 2), BAD);
    edges.changesNothing("cue: no JOKE of 3, which is a PLACE", RICH, x -> x.cue(0, 2, 3), BAD);
    edges.changesNothing("cue: no JOKE of -1, which is none of a PLACE", RICH, x -> x.cue(3, 2, -1), BAD);
  }

  /** "1 and what it was": 0 for none of a PLACE, 1 for no JOKE. */
  private static void p3WhatItWas() {
    for (int what = 0; what < 2; what++) {
      for (int beat = 0; beat < 16; beat += 15) {
        CoinNotThere x = new CoinNotThere();
        edges.is("cue: none, where none was", x.cue(beat, what, -1), 0);
        for (int place = 0; place < 4; place++) edges.is("cue: was", x.cue(beat, what, place), place);
        edges.is("cue: THE WAND was", x.cue(beat, what, -1), 4);
        edges.is("cue: none was", x.cue(beat, what, 0), 0);
      }
    }
    for (int beat = 0; beat < 16; beat += 15) {
      CoinNotThere x = new CoinNotThere();
      edges.is("cue: no JOKE, where none was", x.cue(beat, 2, 0), 1);
      edges.is("cue: a JOKE, where none was", x.cue(beat, 2, 1), 1);
      edges.is("cue: a JOKE, where one was", x.cue(beat, 2, 1), 2);
      edges.is("cue: it is one alone", x.count(3), 1);
      edges.is("cue: no JOKE, where one was", x.cue(beat, 2, 0), 2);
      edges.is("cue: none is left", x.count(3), 0);
    }
  }

  /** "In a BEAT each of these may be told", in all of them. */
  private static void p3EachForItself() {
    CoinNotThere x = new CoinNotThere();
    for (int beat = 0; beat < 16; beat++) {
      edges.is("cue: LOOKS", x.cue(beat, 0, beat % 4), 0);
      edges.is("cue: NAMES", x.cue(beat, 1, 3 - beat % 4), 0);
      edges.is("cue: JOKE", x.cue(beat, 2, 1), 1);
    }
    edges.is("cue: 16 JOKES", x.count(3), 16);
    for (int beat = 0; beat < 16; beat++) {
      edges.is("cue: JOKE of its BEAT", x.cue(beat, 2, 0), 2);
      edges.is("cue: LOOKS of its BEAT", x.cue(beat, 0, -1), 1 + beat % 4);
      edges.is("cue: NAMES of its BEAT", x.cue(beat, 1, -1), 4 - beat % 4);
    }
  }

  /** "He STANDS before COLUMN 0 .. 3 (1 at first)", "before which he did". */
  private static void p4Columns() {
    edges.range("stand", RICH, (x, a) -> x.stand(a[0]), new int[] {0}, 0, 0, 3, BAD);
    for (int from = 0; from < 4; from++) {
      for (int to = 0; to < 4; to++) {
        CoinNotThere x = new CoinNotThere();
        edges.is("stand: at first", x.stand(from), 1);
        edges.is("stand: before", x.stand(to), from);
        edges.is("stand: then", x.stand(0), to);
      }
    }
  }

  /** "LAWS: 0 LOOK (0 .. 9; 4 at first), 1 NAME (0 .. 9; 3), 2 BACK (0 .. 9; 3), 3 LEARN (0 .. 9; 2), 4 FORGET (0 .. 10; 2)". */
  private static void p5Laws() {
    int[] first = {4, 3, 3, 2, 2};
    for (int law = 0; law < 5; law++) {
      int most = law == 4 ? 10 : 9;
      edges.range("habit", RICH, (x, a) -> x.habit(a[0], a[1]), new int[] {law, 0}, 1, 0, most, BAD);
      CoinNotThere x = new CoinNotThere();
      edges.is("habit: at first", x.habit(law, most), first[law]);
      edges.is("habit: the greatest", x.habit(law, 0), most);
      edges.is("habit: the least", x.habit(law, first[law]), 0);
      for (int other = 0; other < 5; other++) edges.is("habit: no other LAW", x.habit(other, 1), first[other]);
    }
    for (int v : new int[] {0, 9, 10}) edges.range("habit", RICH, (x, a) -> x.habit(a[0], a[1]), new int[] {4, v}, 0, v == 10 ? 4 : 0, 4, BAD);
  }

  /** "SEATS are 0 .. 11", KINDS 0 .. 3. */
  private static void p6Ranges() {
    Edges.Row watcher = (x, a) -> x.watcher(a[0], a[1]);
    edges.range("watcher", RICH, watcher, new int[] {10, 0}, 0, 0, 11, BAD);
    edges.range("watcher", RICH, watcher, new int[] {10, 0}, 1, 0, 3, BAD);
  }

  /** "WATCHERS .. are each in a SEAT of their own", "NOT: the SEAT is taken"; one that is left is free. */
  private static void p6SeatIsTaken() {
    for (int seat = 0; seat < 12; seat++) {
      int s = seat;
      Digest.Past one = x -> x.watcher(s, 1);
      for (int kind = 0; kind < 4; kind++) {
        int k = kind;
        edges.changesNothing("watcher: SEAT " + s + " is taken", one, x -> x.watcher(s, k), NOT);
      }
      edges.answers("watcher: the next SEAT is free", one, x -> x.watcher((s + 1) % 12, 0), 1);
      edges.answers("watcher: a SEAT that is left is free", x -> { one.of(x); x.leave(0); }, x -> x.watcher(s, 0), 0);
    }
  }

  /** "WATCHERS 0 .. 7, as they come", "FULL: 8". */
  private static void p6Eight() {
    Digest.Past seven = x -> { for (int seat = 0; seat < 7; seat++) x.watcher(seat, 0); };
    Digest.Past eight = x -> { seven.of(x); x.watcher(11, 3); };
    edges.answers("watcher: the eighth", seven, x -> x.watcher(7, 0), 7);
    for (int seat = 7; seat < 11; seat++) {
      int s = seat;
      edges.changesNothing("watcher: a ninth", eight, x -> x.watcher(s, 0), FULL);
    }
    edges.answers("watcher: room again", x -> { eight.of(x); x.leave(0); }, x -> x.watcher(10, 0), 7);
    edges.answers("watcher: room for one alone", x -> { eight.of(x); x.leave(0); x.watcher(10, 0); }, x -> x.watcher(9, 0), FULL);
  }

  /** "of several BAD ahead of all others, then the first that a call names": "NOT: the SEAT is taken; FULL: 8". */
  private static void p6NotAheadOfFull() {
    edges.changesNothing("watcher: taken and 8", CROWDED, x -> x.watcher(1, 0), NOT);
    edges.changesNothing("watcher: taken by the last and 8", CROWDED, x -> x.watcher(10, 0), NOT);
    edges.changesNothing("watcher: 8", CROWDED, x -> x.watcher(2, 0), FULL);
  }

  /** "BAD ahead of all others". */
  private static void p6BadAheadOfAll() {
    for (int kind : new int[] {-1, 4}) {
      edges.changesNothing("watcher: taken and no KIND", RICH, x -> x.watcher(1, kind), BAD);
      edges.changesNothing("watcher: taken, 8, no KIND", CROWDED, x -> x.watcher(1, kind), BAD);
      edges.changesNothing("watcher: 8 and no KIND", CROWDED, x -> x.watcher(2, kind), BAD);
    }
    for (int seat : new int[] {-1, 12}) edges.changesNothing("watcher: 8 and no SEAT", CROWDED, x -> x.watcher(seat, 0), BAD);
  }

  private static final Digest.Past OF_EACH_KIND = x -> Due.seat(x, "0p;1w;2c;3x;4w");

  /** "DOUBT, 0 .. 9"; there are WATCHERS 0 to how many less 1. */
  private static void p7Ranges() {
    Edges.Row doubt = (x, a) -> x.doubt(a[0], a[1]);
    edges.range("doubt", OF_EACH_KIND, doubt, new int[] {1, 5}, 1, 0, 9, BAD);
    edges.range("doubt", OF_EACH_KIND, doubt, new int[] {4, 5}, 0, 0, 4, BAD);
    edges.changesNothing("doubt: WATCHER 7 of 5", OF_EACH_KIND, x -> x.doubt(7, 5), BAD);
    edges.changesNothing("doubt: WATCHER 8 of 8", CROWDED, x -> x.doubt(8, 5), BAD);
    CoinNotThere x = new CoinNotThere();
    x.watcher(0, 1);
    edges.is("doubt: at first", x.doubt(0, 0), 3);
    for (int v = 1; v < 10; v++) edges.is("doubt: was", x.doubt(0, v), v - 1);
    edges.is("doubt: the greatest", x.doubt(0, 9), 9);
  }

  /** "CAST: another KIND". */
  private static void p7AnotherKind() {
    for (int w : new int[] {0, 2, 3}) {
      for (int v : new int[] {0, 3, 9}) edges.changesNothing("doubt: of WATCHER " + w, OF_EACH_KIND, x -> x.doubt(w, v), CAST);
    }
  }

  /** "BAD ahead of all others". */
  private static void p7BadAheadOfCast() {
    for (int w : new int[] {0, 2, 3}) {
      for (int v : new int[] {-1, 10}) edges.changesNothing("doubt: another KIND, no DOUBT", OF_EACH_KIND, x -> x.doubt(w, v), BAD);
    }
  }

  /** "has a DOUBT, 0 .. 9; 3 at first": by `watcher` and by a HOUSE, also where another one's was. */
  private static void p7ThreeAtFirst() {
    Digest.Past oneGone = x -> { x.watcher(0, 1); x.doubt(0, 9); x.leave(0); };
    edges.answers("doubt: of one who comes", x -> { oneGone.of(x); x.watcher(0, 1); }, x -> x.doubt(0, 0), 3);
    edges.answers("doubt: of one by a HOUSE", x -> { oneGone.of(x); Due.seat(x, "0w"); }, x -> x.doubt(0, 0), 3);
    edges.answers("doubt: of one behind it", x -> { x.watcher(0, 1); x.watcher(1, 1); x.doubt(0, 9); }, x -> x.doubt(1, 0), 3);
  }

  /** "0 SEAT, 1 KIND, 2 HEED behind the last BEAT"; there are WATCHERS 0 to how many less 1. */
  private static void p8Ranges() {
    Edges.Row told = (x, a) -> x.told(a[0], a[1]);
    for (int what = 0; what < 3; what++) edges.range("told", RICH, told, new int[] {0, what}, 0, 0, 4, BAD);
    edges.range("told", RICH, told, new int[] {4, 0}, 1, 0, 2, BAD);
    edges.changesNothing("told: the eighth's SEAT", CROWDED, x -> x.told(7, 0), 10);
    edges.changesNothing("told: no ninth", CROWDED, x -> x.told(8, 0), BAD);
    for (int seat = 0; seat < 12; seat++) {
      int s = seat;
      edges.answers("told: SEAT", x -> x.watcher(s, s % 4), x -> x.told(0, 0), s);
      edges.answers("told: KIND", x -> x.watcher(s, s % 4), x -> x.told(0, 1), s % 4);
    }
  }

  /** "2 HEED behind the last BEAT": what BEAT 15 makes of it counts. */
  private static void p8HeedBehindTheLastBeat() {
    edges.answers("told: nothing is told", x -> x.watcher(0, 0), x -> x.told(0, 2), 9);
    edges.answers("told: a JOKE in BEAT 15", x -> { x.watcher(0, 0); x.cue(15, 2, 1); }, x -> x.told(0, 2), 0);
    edges.answers("told: a JOKE in BEAT 14", x -> { x.watcher(0, 0); x.cue(14, 2, 1); }, x -> x.told(0, 2), 3);
    edges.answers("told: he NAMES in BEAT 15", x -> { x.watcher(0, 0); x.cue(15, 1, 0); }, x -> x.told(0, 2), 7);
    edges.answers("told: he NAMES in BEAT 15, to a CHILD", x -> { x.watcher(0, 2); x.cue(15, 1, 0); }, x -> x.told(0, 2), 9);
    edges.answers("told: a JOKE in BEAT 0, BACK 0", x -> { x.watcher(0, 0); x.cue(0, 2, 1); x.habit(2, 0); }, x -> x.told(0, 2), 0);
  }

  /** There are WATCHERS 0 to how many less 1. */
  private static void p9Ranges() {
    edges.range("leave", RICH, (x, a) -> x.leave(a[0]), new int[] {0}, 0, 0, 4, BAD);
    edges.range("leave", CROWDED, (x, a) -> x.leave(a[0]), new int[] {0}, 0, 0, 7, BAD);
  }

  /** "how many are left (those behind go one down)": with SEAT, KIND and DOUBT, from the first, one between, the last. */
  private static void p9ThoseBehindGoOneDown() {
    for (int gone = 0; gone < 8; gone++) {
      CoinNotThere x = new CoinNotThere();
      for (int w = 0; w < 8; w++) {
        x.watcher(11 - w, w % 4 == 3 ? 3 : 1);
        x.doubt(w, 9 - w);
      }
      edges.is("leave: how many are left", x.leave(gone), 7);
      for (int w = 0; w < 7; w++) {
        int was = w < gone ? w : w + 1;
        edges.is("leave: SEAT", x.told(w, 0), 11 - was);
        edges.is("leave: KIND", x.told(w, 1), was % 4 == 3 ? 3 : 1);
        edges.is("leave: DOUBT", x.doubt(w, 0), was % 4 == 3 ? CAST : 9 - was);
      }
      edges.is("leave: there is no eighth", x.told(7, 0), BAD);
      edges.is("leave: the SEAT is free, the next is the eighth", x.watcher(11 - gone, 0), 7);
    }
  }

  /** "how many are left": 0 at last; then none goes, and the next to come is the first. */
  private static void p9ToNoneAndBack() {
    Digest.Past gone = x -> { Due.seat(x, "0p;1w;2c"); x.leave(2); x.leave(1); };
    edges.answers("leave: the last one", gone, x -> x.leave(0), 0);
    Digest.Past none = x -> { gone.of(x); x.leave(0); };
    edges.changesNothing("leave: nobody is left", none, x -> x.leave(0), BAD);
    edges.alike("leave: an empty house as at first", NEW, none);
    edges.answers("leave: the next to come", none, x -> x.watcher(0, 0), 0);
  }

  /** "The n lowest bytes (1 .. 8)", "how many it has", "BAD: n". */
  private static void p10HowManyBytes() {
    edges.range("type", RICH, (x, a) -> x.type(0x3030303030303030L, a[0]), new int[] {1}, 0, 1, 8, BAD);
    for (int n = 1; n <= 8; n++) {
      int many = n;
      edges.answers("type: n on an empty TAPE", NEW, x -> x.type(0x2020202020202020L, many), n);
      edges.answers("type: n behind 8", RICH, x -> x.type(0x2020202020202020L, many), 8 + n);
    }
  }

  /** "BAD: .. a byte not 32 .. 126": of each of the bytes that are taken, and of none that is not. */
  private static void p10WhichBytes() {
    for (int b = 0; b < 256; b++) {
      long one = b;
      edges.answers("type: byte " + b, NEW, x -> x.type(one, 1), b >= 32 && b <= 126 ? 1 : BAD);
    }
    long blanks = 0x2020202020202020L;
    for (int at = 0; at < 8; at++) {
      for (long b : new long[] {0, 31, 127, 128, 255}) {
        long w = blanks & ~(255L << 8 * at) | b << 8 * at;
        int place = at;
        edges.changesNothing("type: byte " + b + " at " + at, RICH, x -> x.type(w, 8), BAD);
        edges.changesNothing("type: byte " + b + " at " + at + ", taken last", RICH, x -> x.type(w, place + 1), BAD);
        if (at > 0) edges.answers("type: byte " + b + " at " + at + ", not taken", RICH, x -> x.type(w, place), 8 + place);
      }
      for (long b : new long[] {32, 126}) {
        long w = blanks & ~(255L << 8 * at) | b << 8 * at;
        edges.answers("type: byte " + b + " at " + at, RICH, x -> x.type(w, 8), 16);
      }
    }
  }

  /** "The n lowest bytes .. of w, of these the highest first, come behind THE TAPE". */
  private static void p10LowestBytesHighestFirst() {
    CoinNotThere x = new CoinNotThere();
    x.type(0xff00_3132_3a6dL, 2);
    x.type('0', 1);
    edges.is("type: ':m' '0' is a FAULT at :", x.routine(), -20);
    x.type(0x31353aL, 3);
    x.type(0x7e7e_7e6d_3339L, 3);
    edges.is("type: '15:' 'm39'", x.routine(), 1);
    edges.is("type: in BEAT 15", x.act(15, 0, 0, 0), 39);
    x.type(0x303a6d31_326c336aL, 8);
    x.type(0x78_30_31L, 3);
    edges.is("type: '0:m12l3j' 'x01'", x.routine(), 1);
    edges.is("type: MOVE", x.act(0, 0, 0, 0), 12);
    edges.is("type: LOOKS", x.cue(0, 0, -1), 4);
    edges.is("type: JOKE", x.cue(0, 2, 0), 2);
    edges.is("type: SLIP", x.act(0, 1, 0, 0), 1);
  }

  private static Digest.Past typed(int bytes) { return x -> { RICH.of(x); Due.type(x, " ".repeat(bytes - 8)); }; }

  /** "FULL: 100". */
  private static void p10Hundred() {
    long blanks = 0x2020202020202020L;
    for (int n = 1; n <= 8; n++) {
      int many = n;
      edges.answers("type: just 100", typed(100 - n), x -> x.type(blanks, many), 100);
      edges.changesNothing("type: 101", typed(101 - n), x -> x.type(blanks, many), FULL);
      edges.changesNothing("type: behind 100", CROWDED, x -> x.type(blanks, many), FULL);
    }
    edges.answers("type: what was refused is no more counted", x -> { typed(98).of(x); x.type(blanks, 3); }, x -> x.type(blanks, 2), 100);
    edges.answers("type: room again behind a routine", x -> { CROWDED.of(x); x.routine(); }, x -> x.type(blanks, 8), 8);
    edges.answers("type: room again behind a house", x -> { CROWDED.of(x); x.house(); }, x -> x.type(blanks, 8), 8);
  }

  /** "BAD ahead of all others". */
  private static void p10BadAheadOfFull() {
    for (int n : new int[] {-1, 0, 9}) edges.changesNothing("type: 100 and n of " + n, CROWDED, x -> x.type(0x2020, n), BAD);
    edges.changesNothing("type: 100 and a wrong byte", CROWDED, x -> x.type(0x1f20, 2), BAD);
    edges.changesNothing("type: 100 and a wrong last byte", CROWDED, x -> x.type(0x207f, 2), BAD);
  }

  /** "0 WATCHERS, 1 SLIPS, 2 MOVES, 3 JOKES, 4 COVERS, 5 POINTS". */
  private static void p13Ranges() {
    edges.range("count", RICH, (x, a) -> x.count(a[0]), new int[] {0}, 0, 0, 5, BAD);
    int[] many = {5, 4, 1, 1, 4, 3};
    for (int what = 0; what < 6; what++) {
      int w = what;
      edges.changesNothing("count(" + what + ")", RICH, x -> x.count(w), many[what]);
    }
  }

  /** "How many": 0 of each at first, at most 8, 16, 16, 16, 8, 24. */
  private static void p13EmptyAndFull() {
    Digest.Past most = x -> {
      CROWDED.of(x);
      for (int beat = 0; beat < 16; beat++) {
        x.act(beat, 0, 0, 1);
        x.act(beat, 1, 0, 1);
        x.cue(beat, 2, 1);
      }
    };
    int[] many = {8, 16, 16, 16, 8, 24};
    for (int what = 0; what < 6; what++) {
      int w = what;
      edges.answers("count: none of " + what, NEW, x -> x.count(w), 0);
      edges.answers("count: all of " + what, most, x -> x.count(w), many[what]);
    }
  }
}
