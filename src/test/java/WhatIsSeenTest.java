/** Promises 14 to 18: eyes, heed, what is seen. */
public final class WhatIsSeenTest {
  private static final Due due = new Due();
  private static final int BAD = -1, NOT = -2;
  private static final int LEAST = Integer.MIN_VALUE, MOST = Integer.MAX_VALUE;

  public static void main(String[] args) {
    promise14Pull();
    promise14PullOfEachMove();
    promise14PullOfKinds();
    promise15Heed();
    promise16Can();
    promise17Odds();
    promise17OddsOfEachSlip();
    promise18Sees();
    promise18SeesFromFarRight();
    promise18SeesOfChildren();
    due.end();
  }

  private static void pulls(CoinNotThere x, String of, int watcher, int beat, int k, int... want) {
    for (int place = 0; place < 4; place++) {
      due.is("pull: " + of + ", PLACE " + place, x.pull(watcher, beat, place, k), want[place]);
    }
  }

  private static void promise14Pull() {
    CoinNotThere x = new CoinNotThere();
    due.is("pull: nobody", x.pull(0, 0, 0, 1), BAD);
    x.watcher(0, 0);
    pulls(x, "nothing told", 0, 0, 1, 1, 1, 1, 1);
    x.act(0, 0, 3, 9);
    pulls(x, "a MOVE", 0, 0, 1, 1, 1, 1, 10);
    x.cue(0, 0, 3);
    x.cue(0, 1, 2);
    pulls(x, "he LOOKS, he NAMES", 0, 0, 1, 1, 1, 4, 14);
    x.habit(0, 9);
    x.habit(1, 0);
    pulls(x, "other LAWS", 0, 0, 1, 1, 1, 1, 19);
    x.act(0, 1, 2, 1);
    pulls(x, "a SLIP, the first time", 0, 0, 1, 1, 1, 1, 19);
    pulls(x, "a SLIP, the second time", 0, 0, 2, 1, 1, 3, 19);
    pulls(x, "a SLIP, the 9th time", 0, 0, 9, 1, 1, 17, 19);
    x.habit(3, 9);
    pulls(x, "LEARN 9", 0, 0, 9, 1, 1, 73, 19);
    pulls(x, "another BEAT", 0, 1, 9, 1, 1, 1, 1);
    int[][] wrong = {{-1, 0, 0, 1}, {1, 0, 0, 1}, {0, -1, 0, 1}, {0, 16, 0, 1}, {0, 0, -1, 1}, {0, 0, 4, 1}, {0, 0, 0, 0},
        {0, 0, 0, 10}, {LEAST, 0, 0, 1}, {MOST, 0, 0, 1}, {0, LEAST, 0, 1}, {0, MOST, 0, 1}, {0, 0, LEAST, 1},
        {0, 0, MOST, 1}, {0, 0, 0, LEAST}, {0, 0, 0, MOST}};
    for (int[] w : wrong) due.is("pull: wrong", x.pull(w[0], w[1], w[2], w[3]), BAD);
  }

  private static void promise14PullOfEachMove() {
    CoinNotThere x = new CoinNotThere();
    x.watcher(0, 0);
    for (int at = 0; at < 4; at++) {
      for (int size = 1; size <= 9; size++) {
        x.act(3, 0, at, size);
        int[] want = {1, 1, 1, 1};
        want[at] += size;
        pulls(x, "MOVE " + at + size, 0, 3, 1, want);
      }
    }
  }

  private static void promise14PullOfKinds() {
    CoinNotThere x = new CoinNotThere();
    Due.seat(x, "0p;1w;2c;3x");
    Due.tell(x, "0:m06l1n1x02;1:l0n2x19;2:m25l3n0x31");
    pulls(x, "PLAIN", 0, 0, 1, 7, 8, 1, 1);
    pulls(x, "WARNED, he LOOKS left", 1, 0, 1, 10, 8, 1, 1);
    pulls(x, "CHILD", 2, 0, 1, 7, 5, 1, 1);
    pulls(x, "CROSSED", 3, 0, 1, 8, 7, 1, 1);
    pulls(x, "PLAIN learns", 0, 0, 3, 11, 8, 1, 1);
    pulls(x, "WARNED learns", 1, 0, 3, 14, 8, 1, 1);
    pulls(x, "CHILD learns", 2, 0, 3, 11, 5, 1, 1);
    pulls(x, "CROSSED learns where the SLIP is", 3, 0, 3, 12, 7, 1, 1);
    pulls(x, "WARNED, he LOOKS right", 1, 1, 2, 5, 6, 4, 1);
    pulls(x, "CROSSED", 3, 1, 2, 1, 7, 4, 1);
    pulls(x, "WARNED, he LOOKS at THE WAND", 1, 2, 1, 7, 4, 6, 5);
    x.doubt(1, 9);
    pulls(x, "WARNED, greater DOUBT", 1, 2, 1, 13, 10, 6, 5);
    pulls(x, "WARNED, nothing told", 1, 9, 1, 10, 10, 1, 1);
    pulls(x, "CHILD", 2, 2, 1, 1, 1, 6, 5);
    pulls(x, "CROSSED, NAMES right", 3, 2, 1, 1, 4, 6, 5);
  }

  private static void heeds(CoinNotThere x, int watcher, int... want) {
    for (int beat = 0; beat < want.length; beat++) {
      due.is("heed(" + watcher + ", " + beat + ")", x.heed(watcher, beat), want[beat]);
    }
  }

  private static void promise15Heed() {
    CoinNotThere x = new CoinNotThere();
    due.is("heed: nobody", x.heed(0, 0), BAD);
    Due.seat(x, "0p;1w;2c;3x");
    Due.tell(x, "0:n0;2:n3j;3:n1;4:n1;6:m11l1x11;12:j");
    for (int w : new int[] {0, 1, 3}) heeds(x, w, 7, 9, 0, 1, 2, 5, 8, 9, 9, 9, 9, 9, 0, 3, 6, 9);
    heeds(x, 2, 9, 9, 0, 3, 6, 9, 9, 9, 9, 9, 9, 9, 0, 3, 6, 9);
    x.habit(2, 0);
    heeds(x, 0, 7, 7, 0, 0, 0, 0, 0);
    x.habit(2, 1);
    heeds(x, 0, 7, 8, 0, 0, 0, 1, 2);
    x.habit(2, 9);
    heeds(x, 0, 7, 9, 0, 7, 7, 9, 9);
    int[][] wrong = {{-1, 0}, {4, 0}, {0, -1}, {0, 16}, {LEAST, 0}, {MOST, 0}, {0, LEAST}, {0, MOST}};
    for (int[] w : wrong) due.is("heed: wrong", x.heed(w[0], w[1]), BAD);
  }

  private static void promise16Can() {
    CoinNotThere x = new CoinNotThere();
    int[] right = {0b0011, 0b0111, 0b1111, 0b1111};
    int[] left = {0b1111, 0b1111, 0b1110, 0b1100};
    for (int column = 0; column < 4; column++) {
      x.stand(column);
      for (int seat = 0; seat < 12; seat++) {
        due.is("can: THE RIGHT from " + seat, x.can(seat, 0), right[column] >> seat % 4 & 1);
        due.is("can: THE LEFT from " + seat, x.can(seat, 1), left[column] >> seat % 4 & 1);
        due.is("can: THE HEAD", x.can(seat, 2), 1);
        due.is("can: THE WAND", x.can(seat, 3), 1);
      }
    }
    int[][] wrong = {{-1, 0}, {12, 0}, {0, -1}, {0, 4}, {LEAST, 0}, {MOST, 0}, {0, LEAST}, {0, MOST}};
    for (int[] w : wrong) due.is("can: wrong", x.can(w[0], w[1]), BAD);
  }

  private static void odds(CoinNotThere x, String of, int watcher, int beat, int k, int above, int below) {
    due.is("odds: " + of + ", above", x.odds(watcher, beat, k, 0), above);
    due.is("odds: " + of + ", below", x.odds(watcher, beat, k, 1), below);
  }

  private static void promise17Odds() {
    CoinNotThere x = new CoinNotThere();
    due.is("odds: nobody", x.odds(0, 0, 1, 0), BAD);
    Due.seat(x, "0p;4p;8p;3p;9c;1x");
    due.is("odds: no SLIP", x.odds(0, 0, 1, 0), NOT);
    due.is("odds: no SLIP, a wrong part", x.odds(0, 0, 1, 2), BAD);
    x.act(0, 1, 0, 4);
    odds(x, "row 0, 9 4 by 81, by 4", 0, 0, 1, 1, 9);
    odds(x, "row 1, SIZE 3", 1, 0, 1, 1, 12);
    odds(x, "row 2, SIZE 2", 2, 0, 1, 1, 18);
    odds(x, "can't see", 3, 0, 1, 0, 1);
    x.act(0, 1, 0, 1);
    odds(x, "SIZE 1 at least", 2, 0, 1, 1, 36);
    x.act(0, 1, 0, 9);
    odds(x, "SIZE 9, row 0: elsewhere too", 0, 0, 1, 1, 2);
    odds(x, "SIZE 8: 8 and 3 times 2, by 36", 1, 0, 1, 7, 18);
    odds(x, "SIZE 7: 7 and 3 times 1, by 36", 2, 0, 1, 5, 18);
    x.act(0, 1, 0, 8);
    odds(x, "SIZE 6: not elsewhere", 2, 0, 1, 1, 6);
    odds(x, "the third time: 5 of 8 look", 2, 0, 3, 5, 12);
    x.cue(0, 1, 1);
    odds(x, "heed 7, NAME 3 at another PLACE", 2, 0, 1, 2, 27);
    odds(x, "a CHILD does not care", 4, 0, 1, 1, 6);
    odds(x, "CROSSED: NAME pulls at the SLIP: 7 (4 8 and 3 2), by 567", 5, 0, 1, 38, 81);
    x.cue(0, 2, 1);
    odds(x, "a JOKE", 0, 0, 1, 0, 1);
    int[][] wrong = {{-1, 0, 1, 0}, {6, 0, 1, 0}, {0, -1, 1, 0}, {0, 16, 1, 0}, {0, 0, 0, 0}, {0, 0, 10, 0}, {0, 0, 1, -1},
        {0, 0, 1, 2}, {LEAST, 0, 1, 0}, {MOST, 0, 1, 0}, {0, LEAST, 1, 0}, {0, MOST, 1, 0}, {0, 0, LEAST, 0},
        {0, 0, MOST, 0}, {0, 0, 1, LEAST}, {0, 0, 1, MOST}};
    for (int[] w : wrong) due.is("odds: wrong", x.odds(w[0], w[1], w[2], w[3]), BAD);
  }

  /** One in front who always can see, eyes drawn to the SLIP by 10 of 13. */
  private static void promise17OddsOfEachSlip() {
    CoinNotThere x = new CoinNotThere();
    x.watcher(1, 0);
    int[] thousandths = {85, 170, 256, 341, 427, 512, 623, 735, 846};
    for (int at = 0; at < 4; at++) {
      for (int size = 1; size <= 9; size++) {
        x.act(3, 0, at, 9);
        x.act(3, 1, at, size);
        long above = x.odds(0, 3, 1, 0), below = x.odds(0, 3, 1, 1);
        due.is("odds: SLIP " + at + size, 1000 * above / below, thousandths[size - 1]);
        due.is("odds: SLIP " + at + size + " exactly", 117 * above, below * (10 * size + 3 * Math.max(0, size - 6)));
        due.is("sees: SLIP " + at + size, x.sees(3, 1), thousandths[size - 1]);
        due.is("pull: SLIP " + at + size, x.pull(0, 3, at, 5), 10 + 2 * 4);
        x.stand(3);
        due.is("sees: SLIP " + at + size + " from far left", x.sees(3, 1), at == 1 ? 0 : thousandths[size - 1]);
        x.stand(1);
      }
    }
  }

  private static void promise18SeesFromFarRight() {
    CoinNotThere x = new CoinNotThere();
    x.watcher(3, 0);
    for (int at = 0; at < 4; at++) {
      for (int size = 1; size <= 9; size++) {
        x.act(8, 1, at, size);
        due.is("sees: whether SLIP " + at + size + " is seen", x.sees(8, 1) > 0 ? 1 : 0, at == 0 ? 0 : 1);
      }
    }
  }

  private static void promise18SeesOfChildren() {
    CoinNotThere x = new CoinNotThere();
    x.watcher(1, 2);
    Due.tell(x, "2:n0x04");
    due.is("sees: a CHILD hears no NAME", x.sees(2, 1), 111);
    x.watcher(2, 0);
    due.is("sees: one who hears it: 7 4 4 by 567", x.sees(2, 1), 111 + 197);
    x.cue(1, 2, 1);
    due.is("sees: behind a JOKE: 3 by 9, 4; 1 by 81, 16 by 7", x.sees(-1, 1), 37 + 28);
  }

  private static void promise18Sees() {
    CoinNotThere x = new CoinNotThere();
    x.act(0, 1, 0, 4);
    due.is("sees: nobody is there", x.sees(0, 1), 0);
    Due.seat(x, "0p;4p;8p;3p");
    due.is("sees: 111, 83, 55, 0", x.sees(0, 1), 249);
    due.is("sees: the third time: 5 of 8: 277, 208, 138", x.sees(0, 3), 623);
    x.act(15, 1, 2, 9);
    due.is("sees: 500, 388, 277, 500", x.sees(15, 1), 1665);
    due.is("sees: of the routine", x.sees(-1, 1), 1914);
    due.is("sees: of the routine, the third time", x.sees(-1, 3), x.sees(0, 3) + x.sees(15, 3));
    due.is("sees: none there", x.sees(1, 1), NOT);
    due.is("sees: none there and wrong", x.sees(1, 0), BAD);
    x.stand(3);
    due.is("sees: all can see THE RIGHT", x.sees(0, 1), 360);
    int[][] wrong = {{-2, 1}, {16, 1}, {0, 0}, {0, 10}, {-1, 0}, {-1, 10}, {LEAST, 1}, {MOST, 1}, {0, LEAST}, {0, MOST}};
    for (int[] w : wrong) due.is("sees: wrong", x.sees(w[0], w[1]), BAD);
    CoinNotThere y = new CoinNotThere();
    due.is("sees: no SLIP at all", y.sees(-1, 9), 0);
  }
}
