/** Promises 19 to 32: what would be, and images. */
public final class WhatWouldBeTest {
  private static final Due due = new Due();
  private static final int BAD = -1, NOT = -2, FULL = -3, NONE = -4, FAR = -100001;
  private static final int LEAST = Integer.MIN_VALUE, MOST = Integer.MAX_VALUE;

  public static void main(String[] args) {
    promise19Quiet();
    promise20Cover();
    promise21Does();
    promise21DoesOneBehindTheOther();
    promise22Bought();
    promise22BoughtOfLikeOnes();
    coversAreForgottenElsewhere();
    promise23Stances();
    promise24Often();
    promise25Warning();
    promise26Shown();
    promise27Point();
    promise28Fits();
    promise29Apart();
    promise30Clear();
    promise31And32Images();
    promise32CoversAndPoints();
    due.end();
  }

  /** One PLAIN watcher in front; a SLIP of SIZE 4 at THE RIGHT, of which he sees 111 thousandths. */
  private static CoinNotThere oneSlip(int beat) {
    CoinNotThere x = new CoinNotThere();
    x.watcher(0, 0);
    x.act(beat, 1, 0, 4);
    return x;
  }

  private static void quiet(CoinNotThere x, String of, int beat, int best, int sees) {
    due.is("quiet: " + of, x.quiet(beat, 0), best);
    due.is("quiet: " + of + ", SEES", x.quiet(beat, 1), sees);
  }

  private static void promise19Quiet() {
    CoinNotThere x = oneSlip(5);
    quiet(x, "all alike", 5, 0, 111);
    x.cue(7, 2, 1);
    quiet(x, "at the JOKE", 5, 7, 0);
    x.act(7, 1, 2, 9);
    quiet(x, "another SLIP is there", 5, 8, 37);
    quiet(x, "the other stays", 7, 7, 0);
    due.is("quiet: nothing has moved", x.act(5, 1, 0, 4), 4);
    due.is("quiet: nothing has come", x.sees(8, 1), NOT);
    x.act(0, 1, 3, 1);
    x.cue(8, 0, 0);
    quiet(x, "he LOOKS there: 5 of 8 by 3, 4", 5, 9, 74);
    due.is("quiet: no SLIP", x.quiet(1, 0), NOT);
    due.is("quiet: no SLIP and wrong", x.quiet(1, 2), BAD);
    int[][] wrong = {{-1, 0}, {16, 0}, {5, -1}, {5, 2}, {LEAST, 0}, {MOST, 0}, {5, LEAST}, {5, MOST}};
    for (int[] w : wrong) due.is("quiet: wrong", x.quiet(w[0], w[1]), BAD);
    CoinNotThere y = oneSlip(15);
    for (int beat = 0; beat < 15; beat++) y.act(beat, 1, 1, 1);
    quiet(y, "no other BEAT is free", 15, 15, 111);
    y.act(14, 1, 1, 0);
    quiet(y, "of like ones the first", 15, 14, 111);
  }

  private static void promise20Cover() {
    CoinNotThere x = new CoinNotThere();
    due.is("cover: first", x.cover(0, 0, 0, 0), 0);
    due.is("cover: most", x.cover(15, 2, 3, 99), 1);
    int[][] wrong = {{-1, 0, 0, 0}, {16, 0, 0, 0}, {0, -1, 0, 0}, {0, 4, 0, 0}, {0, 0, -1, 0}, {0, 0, 4, 0}, {0, 0, 0, -1},
        {0, 0, 0, 100}, {0, 3, 1, 0}, {0, 3, -1, 0}, {0, 3, 3, 0}, {LEAST, 0, 0, 0}, {MOST, 0, 0, 0}, {0, LEAST, 0, 0},
        {0, MOST, 0, 0}, {0, 0, LEAST, 0}, {0, 0, MOST, 0}, {0, 0, 0, LEAST}, {0, 0, 0, MOST}};
    for (int[] w : wrong) due.is("cover: wrong", x.cover(w[0], w[1], w[2], w[3]), BAD);
    due.is("cover: a JOKE", x.cover(3, 3, 0, 1), 2);
    due.is("cover: the like again", x.cover(3, 3, 0, 1), 3);
    for (int c = 4; c < 8; c++) due.is("cover: " + c, x.cover(c, 1, 1, c), c);
    due.is("cover: 8 are there", x.cover(0, 0, 0, 0), FULL);
    due.is("cover: 8 are there and wrong", x.cover(0, 3, 1, 0), BAD);
    due.is("cover: how many", x.count(4), 8);
  }

  private static CoinNotThere fourCovers() {
    CoinNotThere x = oneSlip(1);
    x.cover(1, 0, 1, 10);
    x.cover(1, 1, 1, 5);
    x.cover(1, 2, 1, 3);
    x.cover(0, 3, 0, 20);
    return x;
  }

  private static void does(CoinNotThere x, int cover, int alone, int with) {
    due.is("does: " + cover + " ALONE", x.does(cover, 0), alone);
    due.is("does: " + cover + " WITH", x.does(cover, 1), with);
  }

  private static void promise21Does() {
    CoinNotThere x = fourCovers();
    does(x, 0, 111 - 44, 4 - 2);
    does(x, 1, 111 - 55, 3 - 2);
    does(x, 2, 111 - 49, 10 - 2);
    does(x, 3, 111 - 37, 20 - 2);
    int[][] wrong = {{-1, 0}, {4, 0}, {0, -1}, {0, 2}, {LEAST, 0}, {MOST, 0}, {0, LEAST}, {0, MOST}};
    for (int[] w : wrong) due.is("does: wrong", x.does(w[0], w[1]), FAR);
  }

  private static void promise21DoesOneBehindTheOther() {
    CoinNotThere x = oneSlip(1);
    x.cue(1, 0, 2);
    due.is("does: BARE", x.sees(-1, 1), 55);
    x.cover(1, 1, 0, 0);
    x.cover(1, 1, 1, 0);
    does(x, 0, 55 - 277, 0);
    does(x, 1, 0, 277 - 55);
    x.clear();
    x.act(1, 0, 0, 9);
    due.is("does: BARE with a MOVE: 11 of 17", x.sees(-1, 1), 261);
    x.cover(1, 0, 3, 0);
    does(x, 0, 261 - 31, 261 - 31);
    for (int kind = 0; kind < 3; kind++) {
      CoinNotThere y = oneSlip(1);
      y.cover(1, kind, 0, 0);
      due.is("does: draws to the SLIP itself, kind " + kind, y.does(0, 0), 111 - new int[] {311, 277, 197}[kind]);
    }
  }

  private static void bought(CoinNotThere x, int coin, int set, int sees, int cost) {
    due.is("bought(" + coin + "): set", x.bought(coin, 0), set);
    due.is("bought(" + coin + "): SEES", x.bought(coin, 1), sees);
    due.is("bought(" + coin + "): COST", x.bought(coin, 2), cost);
  }

  private static void promise22Bought() {
    CoinNotThere x = fourCovers();
    bought(x, 0, 0, 111, 0);
    bought(x, 2, 0, 111, 0);
    bought(x, 3, 4, 49, 3);
    bought(x, 5, 4, 49, 3);
    bought(x, 8, 6, 31, 8);
    bought(x, 10, 6, 31, 8);
    bought(x, 13, 5, 26, 13);
    bought(x, 18, 7, 20, 18);
    bought(x, 22, 7, 20, 18);
    bought(x, 23, 12, 7, 23);
    bought(x, 28, 14, 4, 28);
    bought(x, 33, 13, 3, 33);
    bought(x, 37, 13, 3, 33);
    bought(x, 38, 15, 2, 38);
    bought(x, 999, 15, 2, 38);
    int[][] wrong = {{-1, 0}, {1000, 0}, {0, -1}, {0, 3}, {LEAST, 0}, {MOST, 0}, {0, LEAST}, {0, MOST}};
    for (int[] w : wrong) due.is("bought: wrong", x.bought(w[0], w[1]), BAD);
    CoinNotThere y = oneSlip(0);
    bought(y, 999, 0, 111, 0);
  }

  private static void promise22BoughtOfLikeOnes() {
    CoinNotThere x = oneSlip(1);
    x.cover(9, 1, 1, 0);
    x.cover(1, 1, 1, 0);
    x.cover(1, 1, 2, 0);
    bought(x, 0, 2, 55, 0);
    CoinNotThere y = oneSlip(1);
    y.cover(1, 1, 1, 5);
    y.cover(1, 1, 2, 2);
    y.cover(1, 1, 3, 2);
    bought(y, 99, 2, 55, 2);
    CoinNotThere idle = oneSlip(1);
    idle.cover(9, 1, 1, 0);
    bought(idle, 9, 0, 111, 0);
    CoinNotThere z = oneSlip(1);
    for (int c = 0; c < 8; c++) z.cover(2 * (c % 2), 3, 0, 99 - c % 2);
    bought(z, 999, 1, 37, 99);
    bought(z, 98, 0, 111, 0);
  }

  private static void coversAreForgottenElsewhere() {
    CoinNotThere x = fourCovers();
    x.does(3, 1);
    x.bought(999, 0);
    due.is("covers: SEES is told without", x.sees(-1, 1), 111);
    due.is("covers: MOVES", x.count(2), 0);
    due.is("covers: JOKES", x.count(3), 0);
    due.is("covers: quiet is told without", x.quiet(1, 1), 111);
    due.is("covers: often is told without", x.often(111), 1);
    due.is("covers: shown is told without", x.shown(2), 88);
    due.is("covers: HEED is told without", x.heed(0, 1), 9);
    due.is("covers: PULL is told without", x.pull(0, 1, 1, 1), 1);
  }

  private static void promise23Stances() {
    CoinNotThere x = new CoinNotThere();
    x.act(4, 1, 0, 1);
    due.is("stances: nobody", x.stances(), 15);
    x.watcher(3, 0);
    due.is("stances: THE RIGHT from COLUMN 3", x.stances(), 0b0011);
    x.watcher(10, 2);
    due.is("stances: from COLUMN 2 too", x.stances(), 0b0001);
    x.watcher(5, 2);
    due.is("stances: from COLUMN 1 too", x.stances(), 0);
    x.act(4, 1, 1, 1);
    due.is("stances: THE LEFT from COLUMNS 1, 2, 3", x.stances(), 0);
    x.leave(0);
    x.leave(0);
    due.is("stances: THE LEFT from COLUMN 1", x.stances(), 0b1000);
    x.leave(0);
    x.watcher(4, 0);
    due.is("stances: THE LEFT from COLUMN 0", x.stances(), 0b1100);
    x.act(9, 1, 0, 1);
    due.is("stances: THE RIGHT, too", x.stances(), 0);
    x.act(9, 1, 0, 0);
    x.stand(3);
    x.cue(4, 2, 1);
    due.is("stances: JOKES and where he STANDS count for nothing", x.stances(), 0b1100);
    x.act(4, 1, 2, 1);
    due.is("stances: THE HEAD", x.stances(), 0);
    x.act(4, 1, 0, 0);
    due.is("stances: no SLIP", x.stances(), 15);
    x.act(0, 1, 1, 9);
    due.is("stances: a SLIP in the first BEAT", x.stances(), 0b1100);
    x.act(0, 1, 0, 0);
    due.is("stances: he STANDS where he did", x.stand(0), 3);
  }

  private static void promise24Often() {
    CoinNotThere x = oneSlip(3);
    int[] sees = {111, 222, 277, 311, 333, 349, 361, 370, 377};
    for (int k = 1; k <= 9; k++) {
      due.is("often: SEES the " + k + "th time", x.sees(-1, k), sees[k - 1]);
      due.is("often: just " + k, x.often(sees[k - 1]), k);
      due.is("often: not " + k, x.often(sees[k - 1] - 1), k - 1);
    }
    due.is("often: most", x.often(99999), 9);
    x.habit(3, 0);
    due.is("often: nobody learns", x.often(111), 9);
    due.is("often: not once", x.often(110), 0);
    x.cue(3, 2, 1);
    due.is("often: SEES of nothing", x.often(0), 9);
    for (int most : new int[] {-1, 100000, LEAST, MOST}) due.is("often: wrong", x.often(most), BAD);
  }

  private static void promise25Warning() {
    CoinNotThere x = oneSlip(3);
    due.is("warning: 4 of 10", x.warning(), 177 - 111);
    x.cue(3, 0, 0);
    due.is("warning: he LOOKS there: 5 of 11, of 8", x.warning(), 202 - 277);
    Due.seat(x, "1w;2c;4x");
    x.doubt(1, 9);
    due.is("warning: of no other KIND", x.warning(), 202 - 277);
    due.is("warning: he is still PLAIN", x.told(0, 1), 0);
    x.leave(0);
    due.is("warning: none is PLAIN", x.warning(), 0);
    due.is("warning: DOUBT as it was", x.doubt(0, 1), 9);
    due.is("warning: nothing told", new CoinNotThere().warning(), 0);
  }

  private static void promise26Shown() {
    CoinNotThere x = oneSlip(1);
    int[] left = {0, 0, 88, 66, 44, 22, 0, 0};
    for (int beat = 0; beat < left.length; beat++) due.is("shown(" + beat + ")", x.shown(beat), left[beat]);
    due.is("shown: last BEAT", x.shown(15), 0);
    due.is("shown: best", x.shown(-1), 6);
    x.act(2, 1, 0, 4);
    due.is("shown: of two", x.shown(3), 66 + 88);
    due.is("shown: best of two", x.shown(-1), 7);
    x.habit(4, 1);
    due.is("shown: each is cut", x.shown(3), 88 + 99);
    due.is("shown: best by FORGET 1", x.shown(-1), 12);
    x.habit(4, 0);
    due.is("shown: nothing is forgotten", x.shown(15), 222);
    due.is("shown: of like ones the first", x.shown(-1), 3);
    x.habit(4, 10);
    due.is("shown: all is forgotten", x.shown(2), 0);
    x.habit(4, 1);
    x.act(14, 1, 0, 4);
    due.is("shown: the last BEAT alone", x.shown(-1), 15);
    due.is("shown: at it", x.shown(15), 99);
    x.act(15, 1, 0, 4);
    due.is("shown: no BEAT behind the last SLIP", x.shown(-1), NONE);
    due.is("shown: at a BEAT all the same", x.shown(15), 99);
    for (int beat : new int[] {-2, 16, LEAST, MOST}) due.is("shown: wrong", x.shown(beat), BAD);
    CoinNotThere first = oneSlip(0);
    due.is("shown: of the first BEAT", first.shown(1), 88);
    due.is("shown: best behind the first BEAT", first.shown(-1), 5);
    first.habit(4, 5);
    due.is("shown: best is the second behind it", first.shown(-1), 2);
    first.habit(4, 9);
    due.is("shown: still the second", first.shown(-1), 2);
    first.habit(4, 10);
    due.is("shown: the next one", first.shown(-1), 1);
    CoinNotThere y = new CoinNotThere();
    due.is("shown: no SLIP", y.shown(-1), NONE);
    due.is("shown: no SLIP, at a BEAT", y.shown(0), 0);
  }

  private static void promise27Point() {
    CoinNotThere x = new CoinNotThere();
    int[][] wrong = {{-1, 0}, {16, 0}, {0, -1}, {0, 4}, {LEAST, 0}, {MOST, 0}, {0, LEAST}, {0, MOST}};
    for (int[] w : wrong) due.is("point: wrong", x.point(w[0], w[1]), BAD);
    for (int i = 1; i <= 24; i++) due.is("point: " + i, x.point(i % 16, i % 4), i);
    due.is("point: 24 are there", x.point(0, 0), FULL);
    due.is("point: 24 are there and wrong", x.point(0, 4), BAD);
    due.is("point: how many", x.count(5), 24);
  }

  private static void fits(CoinNotThere x, String of, int look, int on) {
    due.is("fits: " + of, x.fits(0), look);
    due.is("fits: " + of + ", on how many", x.fits(1), on);
  }

  private static void promise28Fits() {
    CoinNotThere x = new CoinNotThere();
    due.is("fits: no POINTS", x.fits(0), NOT);
    due.is("fits: no POINTS and wrong", x.fits(2), BAD);
    Due.tell(x, "0:m06l1;1:m05l1n0;2:m24l3");
    x.point(0, 1);
    fits(x, "as much as a MOVE of SIZE 6", 6, 1);
    x.point(0, 0);
    fits(x, "a tie: both are on the greatest", 6, 2);
    x.point(0, 0);
    x.point(0, 0);
    fits(x, "still the tie", 6, 4);
    x.clear();
    x.point(0, 0);
    fits(x, "of like ones the least", 0, 1);
    x.point(1, 1);
    fits(x, "5 and 3 pull right, LOOK has to be 8", 0, 1);
    x.point(1, 1);
    fits(x, "8: two of three", 8, 2);
    x.habit(1, 1);
    fits(x, "NAME 1: 6, all three", 6, 3);
    x.habit(1, 9);
    fits(x, "NAME 9: none reaches", 0, 1);
    x.point(2, 0);
    x.point(9, 3);
    fits(x, "where nothing is told all are alike", 0, 2);
    due.is("fits: LOOK as it was", x.habit(0, 4), 4);
    Due.seat(x, "0x;1w;2c");
    fits(x, "who is there counts for nothing", 0, 2);
    for (int what : new int[] {-1, 2, LEAST, MOST}) due.is("fits: wrong", x.fits(what), BAD);
    CoinNotThere y = new CoinNotThere();
    Due.tell(y, "4:l1x13;5:m09l1");
    y.point(4, 0);
    fits(y, "LOOK 0 alone", 0, 1);
    y.point(5, 1);
    y.point(5, 1);
    fits(y, "LOOK 9 alone", 9, 2);
    y.clear();
    y.point(4, 1);
    fits(y, "a SLIP draws no more the first time", 0, 1);
  }

  private static void promise29Apart() {
    CoinNotThere x = new CoinNotThere();
    int[][] rows = {{5, 5, 1, 9, 400}, {1, 2, 1, 5, 167}, {2, 1, 0, 0, 666}, {0, 0, 1, 2, -333}, {0, 0, 0, 0, 0}, {0, 9, 0, 9, 0},
        {999, 0, 0, 999, 1000}, {0, 999, 999, 0, -1000}, {1, 0, 0, 1, 1000}, {0, 1, 1, 0, -1000}, {998, 999, 999, 998, -1}, {1, 999, 999, 999, -499}};
    for (int[] r : rows) due.is("apart", x.apart(r[0], r[1], r[2], r[3]), r[4]);
    for (int i = 0; i < 4; i++) {
      for (int v : new int[] {-1, 1000, LEAST, MOST}) {
        int[] r = {1, 1, 1, 1};
        r[i] = v;
        due.is("apart: wrong", x.apart(r[0], r[1], r[2], r[3]), FAR);
      }
    }
  }

  private static void promise30Clear() {
    CoinNotThere x = fourCovers();
    due.is("clear: COVERS alone", x.clear(), 4);
    due.is("clear: nothing is left", x.clear(), 0);
    x.point(1, 1);
    x.point(1, 2);
    x.cover(0, 0, 0, 0);
    due.is("clear: both", x.clear(), 3);
    due.is("clear: COVERS", x.count(4), 0);
    due.is("clear: POINTS", x.count(5), 0);
    due.is("clear: no COVER", x.does(0, 0), FAR);
    due.is("clear: no POINT", x.fits(0), NOT);
    due.is("clear: SLIPS stay", x.count(1), 1);
    due.is("clear: WATCHERS stay", x.count(0), 1);
    due.is("clear: the next COVER is 0", x.cover(2, 2, 2, 2), 0);
    due.is("clear: the next POINT is the first", x.point(0, 0), 1);
  }

  private static void promise31And32Images() {
    CoinNotThere x = new CoinNotThere();
    due.is("restore: no IMAGE", x.restore(), NONE);
    Due.seat(x, "0p;5w;7c");
    x.doubt(1, 5);
    Due.tell(x, "1:m19l1n1jx04;4:x18");
    x.stand(2);
    x.habit(4, 7);
    x.cover(1, 0, 2, 10);
    x.point(0, 3);
    x.sheet(0, 0, 3);
    Due.type(x, "0:");
    due.is("image", x.image(), 1);
    due.is("image: THE TAPE is as it was", x.routine(), 1);
    changeAll(x);
    due.is("restore", x.restore(), 1);
    isAsItWas(x);
    changeAll(x);
    due.is("restore: again", x.restore(), 1);
    isAsItWas(x);
    due.is("restore: SHEETS are as they are", x.drop(0), -11);
    Due.type(x, "15:j");
    due.is("restore: leaves THE TAPE", x.restore(), 1);
    due.is("restore: THE TAPE", x.routine(), 1);
    due.is("image: another", x.image(), 1);
    x.cue(15, 2, 0);
    x.restore();
    due.is("restore: the later IMAGE", x.cue(15, 2, 0), 2);
  }

  private static void promise32CoversAndPoints() {
    CoinNotThere x = fourCovers();
    x.cue(0, 0, 1);
    x.point(0, 1);
    x.image();
    x.clear();
    for (int i = 0; i < 4; i++) {
      x.cover(9, i < 3 ? 2 - i : 3, 0, 50);
      x.point(0, 0);
    }
    x.restore();
    does(x, 0, 111 - 44, 4 - 2);
    does(x, 1, 111 - 55, 3 - 2);
    does(x, 2, 111 - 49, 10 - 2);
    does(x, 3, 111 - 37, 20 - 2);
    bought(x, 33, 13, 3, 33);
    fits(x, "the POINT that was", 0, 1);
    x.point(0, 0);
    fits(x, "both, while nothing draws", 0, 2);
    x.restore();
    x.act(0, 0, 0, 1);
    fits(x, "the POINT that was, alone", 1, 1);
  }

  private static void changeAll(CoinNotThere x) {
    x.leave(0);
    x.doubt(0, 0);
    x.watcher(11, 1);
    Due.tell(x, "1:;4:m11l0n0jx11");
    x.stand(0);
    for (int law = 0; law < 5; law++) x.habit(law, 0);
    x.clear();
    x.cover(9, 1, 1, 1);
    x.cover(9, 2, 1, 1);
    x.point(9, 1);
    x.point(9, 2);
    x.drop(0);
  }

  /** Asks without leaving a change behind that the next question could meet. */
  private static void isAsItWas(CoinNotThere x) {
    int[] many = {3, 2, 1, 1, 1, 1};
    for (int what = 0; what < 6; what++) due.is("restore: count(" + what + ")", x.count(what), many[what]);
    int[] seats = {0, 5, 7};
    for (int w = 0; w < 3; w++) {
      due.is("restore: SEAT", x.told(w, 0), seats[w]);
      due.is("restore: KIND", x.told(w, 1), w);
    }
    due.is("restore: DOUBT", x.doubt(1, 5), 5);
    due.is("restore: MOVE", x.act(1, 0, 1, 9), 19);
    due.is("restore: SLIP", x.act(1, 1, 0, 4), 4);
    due.is("restore: LOOKS", x.cue(1, 0, 1), 2);
    due.is("restore: NAMES", x.cue(1, 1, 1), 2);
    due.is("restore: JOKE", x.cue(1, 2, 1), 2);
    due.is("restore: the other SLIP", x.act(4, 1, 1, 8), 18);
    due.is("restore: STANDS", x.stand(2), 2);
    int[] laws = {4, 3, 3, 2, 7};
    for (int law = 0; law < 5; law++) due.is("restore: LAW", x.habit(law, laws[law]), laws[law]);
    due.is("restore: the POINT", x.fits(1), 1);
  }
}
