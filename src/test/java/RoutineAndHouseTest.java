/** Promises 1 to 13: the routine, the house. */
public final class RoutineAndHouseTest {
  private static final Due due = new Due();
  private static final int BAD = -1, NOT = -2, FULL = -3, CAST = -12;
  private static final int LEAST = Integer.MIN_VALUE, MOST = Integer.MAX_VALUE;

  public static void main(String[] args) {
    promise1NewObject();
    promise2Act();
    promise3Cue();
    promise4Stand();
    promise5Habit();
    promise6Watcher();
    promise7Doubt();
    promise8Told();
    promise9Leave();
    promise10Type();
    promise11Routine();
    promise11RoutineFaults();
    promise12House();
    promise12HouseFaults();
    promise13Count();
    due.end();
  }

  private static void promise1NewObject() {
    CoinNotThere x = new CoinNotThere();
    for (int what = 0; what < 6; what++) due.is("new: count(" + what + ")", x.count(what), 0);
    for (int beat = 0; beat < 16; beat++) {
      due.is("new: no MOVE", x.act(beat, 0, 0, 0), 0);
      due.is("new: no SLIP", x.act(beat, 1, 0, 0), 0);
      due.is("new: he LOOKS nowhere", x.cue(beat, 0, -1), 0);
      due.is("new: he NAMES nothing", x.cue(beat, 1, -1), 0);
      due.is("new: no JOKE", x.cue(beat, 2, 0), 1);
    }
    due.is("new: STANDS before 1", x.stand(1), 1);
    int[] laws = {4, 3, 3, 2, 2};
    for (int law = 0; law < 5; law++) due.is("new: LAW " + law, x.habit(law, 0), laws[law]);
    for (int sheet = 0; sheet < 4; sheet++) due.is("new: SHEET " + sheet, x.drop(sheet), -11);
    due.is("new: THE TAPE is empty", x.type(32, 1), 1);
    due.is("new: no IMAGE", x.restore(), -4);
  }

  private static void promise2Act() {
    CoinNotThere x = new CoinNotThere();
    due.is("act: first MOVE", x.act(0, 0, 3, 9), 0);
    due.is("act: MOVE was", x.act(0, 0, 0, 1), 39);
    due.is("act: THE RIGHT, SIZE 1", x.act(0, 0, 2, 0), 1);
    due.is("act: none was", x.act(0, 0, 2, 5), 0);
    due.is("act: a SLIP beside the MOVE", x.act(0, 1, 1, 4), 0);
    due.is("act: SLIP was", x.act(0, 1, 1, 0), 14);
    due.is("act: MOVE is still there", x.act(0, 0, 0, 0), 25);
    due.is("act: last BEAT", x.act(15, 1, 3, 9), 0);
    due.is("act: last BEAT was", x.act(15, 1, 3, 9), 39);
    int[][] wrong = {{-1, 0, 0, 1}, {16, 0, 0, 1}, {0, -1, 0, 1}, {0, 2, 0, 1}, {0, 0, -1, 1}, {0, 0, 4, 1},
        {0, 0, 0, -1}, {0, 0, 0, 10}, {0, 0, 4, 0}, {LEAST, 0, 0, 1}, {MOST, 0, 0, 1}, {0, LEAST, 0, 1},
        {0, MOST, 0, 1}, {0, 0, LEAST, 1}, {0, 0, MOST, 1}, {0, 0, 0, LEAST}, {0, 0, 0, MOST}};
    for (int[] w : wrong) due.is("act: wrong", x.act(w[0], w[1], w[2], w[3]), BAD);
    due.is("act: wrong ones changed nothing", x.act(0, 0, 0, 0), 0);
    due.is("act: wrong ones changed no SLIP", x.act(15, 1, 0, 0), 39);
  }

  private static void promise3Cue() {
    CoinNotThere x = new CoinNotThere();
    due.is("cue: first LOOK", x.cue(4, 0, 0), 0);
    due.is("cue: LOOKS at THE RIGHT", x.cue(4, 0, 3), 1);
    due.is("cue: LOOKS at THE WAND", x.cue(4, 0, -1), 4);
    due.is("cue: none", x.cue(4, 0, -1), 0);
    due.is("cue: first NAME", x.cue(15, 1, 2), 0);
    due.is("cue: NAMES THE HEAD", x.cue(15, 1, 1), 3);
    due.is("cue: LOOK beside NAME", x.cue(15, 0, 3), 0);
    due.is("cue: NAMES THE LEFT", x.cue(15, 1, -1), 2);
    due.is("cue: first JOKE", x.cue(0, 2, 1), 1);
    due.is("cue: a JOKE was", x.cue(0, 2, 0), 2);
    due.is("cue: none was", x.cue(0, 2, 0), 1);
    int[][] wrong = {{-1, 0, 0}, {16, 0, 0}, {0, -1, 0}, {0, 3, 0}, {0, 0, -2}, {0, 0, 4}, {0, 1, -2}, {0, 1, 4},
        {0, 2, -1}, {0, 2, 2}, {LEAST, 2, 0}, {MOST, 2, 0}, {0, LEAST, 0}, {0, MOST, 0}, {0, 0, LEAST},
        {0, 1, MOST}, {0, 2, LEAST}, {0, 2, MOST}};
    for (int[] w : wrong) due.is("cue: wrong", x.cue(w[0], w[1], w[2]), BAD);
    due.is("cue: wrong ones changed no LOOK", x.cue(0, 0, -1), 0);
    due.is("cue: wrong ones changed no NAME", x.cue(0, 1, -1), 0);
    due.is("cue: wrong ones changed no JOKE", x.cue(0, 2, 0), 1);
  }

  private static void promise4Stand() {
    CoinNotThere x = new CoinNotThere();
    due.is("stand(3)", x.stand(3), 1);
    due.is("stand(0)", x.stand(0), 3);
    for (int w : new int[] {-1, 4, LEAST, MOST}) due.is("stand: wrong", x.stand(w), BAD);
    due.is("stand(2)", x.stand(2), 0);
  }

  private static void promise5Habit() {
    CoinNotThere x = new CoinNotThere();
    int[] first = {4, 3, 3, 2, 2};
    for (int law = 0; law < 5; law++) {
      due.is("habit: first", x.habit(law, 9), first[law]);
      due.is("habit: 9", x.habit(law, 0), 9);
      due.is("habit: -1", x.habit(law, -1), BAD);
      due.is("habit: 11", x.habit(law, 11), BAD);
      due.is("habit: 10, of FORGET alone", x.habit(law, 10), law == 4 ? 0 : BAD);
      due.is("habit: then", x.habit(law, 1), law == 4 ? 10 : 0);
    }
    int[][] wrong = {{-1, 0}, {5, 0}, {LEAST, 0}, {MOST, 0}, {0, LEAST}, {0, MOST}};
    for (int[] w : wrong) due.is("habit: wrong", x.habit(w[0], w[1]), BAD);
  }

  private static void promise6Watcher() {
    CoinNotThere x = new CoinNotThere();
    int[][] wrong = {{-1, 0}, {12, 0}, {0, -1}, {0, 4}, {LEAST, 0}, {MOST, 0}, {0, LEAST}, {0, MOST}};
    for (int[] w : wrong) due.is("watcher: wrong", x.watcher(w[0], w[1]), BAD);
    for (int i = 0; i < 7; i++) due.is("watcher " + i, x.watcher(11 - i, i % 4), i);
    due.is("watcher: taken", x.watcher(11, 1), NOT);
    due.is("watcher: taken, wrong KIND", x.watcher(11, 4), BAD);
    due.is("watcher: the eighth", x.watcher(0, 3), 7);
    due.is("watcher: full", x.watcher(1, 0), FULL);
    due.is("watcher: full and taken", x.watcher(0, 0), NOT);
    due.is("watcher: full and wrong", x.watcher(12, 0), BAD);
    due.is("watcher: how many", x.count(0), 8);
    x.leave(7);
    due.is("watcher: the SEAT is free again", x.watcher(0, 2), 7);
  }

  private static void promise7Doubt() {
    CoinNotThere x = new CoinNotThere();
    due.is("doubt: nobody", x.doubt(0, 0), BAD);
    for (int kind = 0; kind < 4; kind++) x.watcher(kind, kind);
    due.is("doubt: at first", x.doubt(1, 9), 3);
    due.is("doubt: then", x.doubt(1, 0), 9);
    due.is("doubt: of PLAIN", x.doubt(0, 0), CAST);
    due.is("doubt: of CHILD", x.doubt(2, 0), CAST);
    due.is("doubt: of CROSSED", x.doubt(3, 0), CAST);
    due.is("doubt: wrong ahead of another KIND", x.doubt(0, 10), BAD);
    for (int w : new int[] {-1, 4, LEAST, MOST}) due.is("doubt: no such", x.doubt(w, 0), BAD);
    for (int v : new int[] {-1, 10, LEAST, MOST}) due.is("doubt: wrong", x.doubt(1, v), BAD);
    due.is("doubt: unchanged", x.doubt(1, 3), 0);
    x.leave(1);
    x.watcher(1, 1);
    due.is("doubt: a new one's", x.doubt(3, 1), 3);
    x.watcher(4, 1);
    x.doubt(4, 7);
    x.leave(0);
    due.is("doubt: goes down with its WATCHER", x.doubt(2, 0), 1);
    due.is("doubt: and the next", x.doubt(3, 0), 7);
  }

  private static void promise8Told() {
    CoinNotThere x = new CoinNotThere();
    due.is("told: nobody", x.told(0, 0), BAD);
    x.watcher(11, 3);
    x.watcher(0, 2);
    due.is("told: SEAT", x.told(0, 0), 11);
    due.is("told: KIND", x.told(0, 1), 3);
    due.is("told: HEED", x.told(0, 2), 9);
    due.is("told: SEAT", x.told(1, 0), 0);
    due.is("told: KIND", x.told(1, 1), 2);
    x.cue(15, 1, 0);
    due.is("told: HEED behind a NAME in the last BEAT", x.told(0, 2), 7);
    due.is("told: of a CHILD", x.told(1, 2), 9);
    x.cue(14, 2, 1);
    due.is("told: behind a JOKE, then a NAME", x.told(0, 2), 1);
    due.is("told: of a CHILD", x.told(1, 2), 3);
    x.cue(15, 2, 1);
    due.is("told: behind a JOKE", x.told(1, 2), 0);
    int[][] wrong = {{-1, 0}, {2, 0}, {0, -1}, {0, 3}, {LEAST, 0}, {MOST, 0}, {0, LEAST}, {0, MOST}};
    for (int[] w : wrong) due.is("told: wrong", x.told(w[0], w[1]), BAD);
  }

  private static void promise9Leave() {
    CoinNotThere x = new CoinNotThere();
    due.is("leave: nobody", x.leave(0), BAD);
    for (int i = 0; i < 4; i++) x.watcher(i, i);
    for (int w : new int[] {-1, 4, LEAST, MOST}) due.is("leave: no such", x.leave(w), BAD);
    due.is("leave: one in the middle", x.leave(1), 3);
    int[] left = {0, 2, 3};
    for (int i = 0; i < 3; i++) {
      due.is("leave: SEAT of who is left", x.told(i, 0), left[i]);
      due.is("leave: KIND of who is left", x.told(i, 1), left[i]);
    }
    due.is("leave: the last", x.leave(2), 2);
    due.is("leave: there is none", x.leave(2), BAD);
    due.is("leave", x.leave(0), 1);
    due.is("leave: all gone", x.leave(0), 0);
    due.is("leave: how many", x.count(0), 0);
  }

  private static void promise10Type() {
    CoinNotThere x = new CoinNotThere();
    for (int n : new int[] {0, -1, 9, LEAST, MOST}) due.is("type: n", x.type(0x3030303030303030L, n), BAD);
    for (int b : new int[] {0, 31, 127, 128, 255}) due.is("type: byte " + b, x.type(b, 1), BAD);
    due.is("type: a wrong byte ahead", x.type(0x1f30, 2), BAD);
    due.is("type: a wrong byte behind", x.type(0x307f, 2), BAD);
    due.is("type: wrong bytes that are not taken", x.type(0xff7f00000000303aL, 2), 2);
    due.is("type: the highest first", x.routine(), 1);
    due.is("type: THE TAPE is empty then", x.type(-1L, 8), BAD);
    due.is("type: 8 bytes", x.type(0x7e20202020202020L, 8), 8);
    for (int i = 2; i <= 12; i++) due.is("type: more", x.type(0x2020202020202020L, 8), 8 * i);
    due.is("type: too many", x.type(0x2020202020L, 5), FULL);
    due.is("type: too many and wrong", x.type(0x1f20202020L, 5), BAD);
    due.is("type: 100", x.type(0x20202020L, 4), 100);
    due.is("type: 101", x.type(0x20L, 1), FULL);
    due.is("type: the first byte can't stand there", x.routine(), -20);
    Due.type(x, " ".repeat(100));
    due.is("type: 100 blanks", x.routine(), -120);
  }

  private static void promise11Routine() {
    CoinNotThere x = new CoinNotThere();
    x.act(3, 0, 1, 1);
    x.act(5, 1, 1, 7);
    due.is("routine: one CLAUSE", Due.routine(x, "5:m12l3n0jx39"), 1);
    due.is("routine: MOVE", x.act(5, 0, 0, 0), 12);
    due.is("routine: LOOKS", x.cue(5, 0, -1), 4);
    due.is("routine: NAMES", x.cue(5, 1, -1), 1);
    due.is("routine: JOKE", x.cue(5, 2, 0), 2);
    due.is("routine: SLIP", x.act(5, 1, 0, 0), 39);
    due.is("routine: another BEAT is as it was", x.act(3, 0, 1, 1), 11);
    due.is("routine: blanks, 0s ahead", Due.routine(x, "  0015  :  l 1  x 0 1 ; 3 :  "), 2);
    due.is("routine: BEAT 15 LOOKS", x.cue(15, 0, 0), 2);
    due.is("routine: BEAT 15 SLIP", x.act(15, 1, 0, 0), 1);
    due.is("routine: what was told of BEAT 3 is gone", x.act(3, 0, 0, 0), 0);
    due.is("routine: the later CLAUSE of a BEAT", Due.routine(x, "2:m11l1n1jx11;2:n2"), 2);
    due.is("routine: MOVE of the later", x.act(2, 0, 0, 0), 0);
    due.is("routine: LOOKS of the later", x.cue(2, 0, 0), 0);
    due.is("routine: NAMES of the later", x.cue(2, 1, 0), 3);
    due.is("routine: JOKE of the later", x.cue(2, 2, 0), 1);
    due.is("routine: SLIP of the later", x.act(2, 1, 0, 0), 0);
    due.is("routine: each kind alone", Due.routine(x, "1:m01;2:l0;3:n0;4:j;5:x01;0:;15:;14:m39x39"), 8);
    due.is("routine: MOVES", x.count(2), 2);
    due.is("routine: JOKES", x.count(3), 1);
    due.is("routine: SLIPS", x.count(1), 2);
    due.is("routine: a FAULT tells nothing", Due.routine(x, "1:j;2:j;3:j;4:;16:"), -35);
    due.is("routine: JOKES as they were", x.count(3), 1);
    due.is("routine: a FAULT empties THE TAPE", x.type(0x203a, 2), 2);
    due.is("routine: which it is by a FAULT again", x.routine(), -21);
    due.is("routine: a number of many digits", Due.routine(x, "0".repeat(96) + "15:j"), 1);
    due.is("routine: it is BEAT 15", x.cue(15, 2, 0), 2);
  }

  private static void promise11RoutineFaults() {
    String[] texts = {"", "   ", "0", " 0 ", "0:m", "0:m1", "0:m1 ", "0:m40", "0:m10", "0:m1 0", "0:m1a", "0:l", "0:l4",
        "0:n4", "0:n 9", "0:x4", "0:x30", "0:x3 ", "0:jj", "0:lm11", "0:l1m11", "0:n1l1", "0:jn1", "0:x11j", "0:x11x11",
        "0:m11m11", "16:", "  16:", "99999999999999999999:", " 4294967296:", "1 5:", "a", ":", "-1:", "1;", "1:;", "1:; ", "1:,",
        "1:;;", "0:;1:;2:;3:;4:;5:;6:;7:;8:", "0:;1:;2:;3:;4:;5:;6:;7: ; ", "0:;1:;2:;3:;4:;5:;6:;7:x", "1:J", "1:M11",
        "1:m11 2", "1:;16", "1:; 16:", "1::", "0:00", "15:l3 ~"};
    int[] places = {0, 3, 1, 3, 3, 4, 5, 3, 4, 5, 4, 3, 3, 3, 4, 3, 4, 5, 3, 3, 4, 4, 3, 5, 5, 5, 0, 2, 0, 1, 2, 0, 0, 0, 1, 3, 4, 2, 3,
        23, 24, 24, 2, 2, 6, 3, 4, 2, 2, 6};
    CoinNotThere x = new CoinNotThere();
    due.is("routine faults: rows", texts.length, places.length);
    for (int i = 0; i < texts.length; i++) due.is("routine: '" + texts[i] + "'", Due.routine(x, texts[i]), -20 - places[i]);
    due.is("routine faults: nothing is told", x.count(1) + x.count(2) + x.count(3), 0);
  }

  private static void promise12House() {
    CoinNotThere x = new CoinNotThere();
    due.is("house: KINDS in this order", Due.house(x, "11p; 00 w ;5c;7x"), 4);
    int[] seats = {11, 0, 5, 7};
    for (int i = 0; i < 4; i++) {
      due.is("house: SEAT", x.told(i, 0), seats[i]);
      due.is("house: KIND", x.told(i, 1), i);
    }
    due.is("house: DOUBT", x.doubt(1, 1), 3);
    due.is("house: a FAULT, none comes", Due.house(x, "1p;2p;2p"), -26);
    due.is("house: how many", x.count(0), 4);
    due.is("house: THE TAPE is empty by a FAULT", x.type(0x20, 1), 1);
    due.is("house: not all have room", Due.house(x, "1p;2p;3p;4p;6p"), FULL);
    due.is("house: none comes", x.count(0), 4);
    due.is("house: THE TAPE is empty by FULL", x.type(0x3170, 2), 2);
    due.is("house: one comes behind the others", x.house(), 1);
    due.is("house: behind the others", x.told(4, 0), 1);
    due.is("house: a FAULT ahead of FULL", Due.house(x, "2p;3p;4p;6p;8z"), -33);
    due.is("house: room for just these", Due.house(x, "2p;3p;4p"), 3);
    due.is("house: THE TAPE is empty", x.type(0x20, 1), 1);
    due.is("house: full", Due.house(x, "6p"), FULL);
    due.is("house: a taken SEAT ahead of FULL", Due.house(x, "6p;1p"), -23);
    CoinNotThere y = new CoinNotThere();
    due.is("house: 8 at once", Due.house(y, "0p;1p;2p;3p;4p;5p;6p;7p"), 8);
    due.is("house: 8 are there", y.count(0), 8);
  }

  private static void promise12HouseFaults() {
    String[] texts = {"", "  ", "1", "1 ", "12p", " 12p", "4294967297p", "1z", "1 z", "1P", "1p;", "1p; ", "1p,", "1p;;", "1pw", "1 1p", "p",
        "0p", " 0p", "00p", "000z", "1p;2p;01p", "1p;1z", "1p 2p", "2p;0w", "1p;2p;3p;4p;5p;6p;7p;8p;", "1p;2p;3p;4p;5p;6p;7p;8p;9p",
        "1p;2p;3p;4p;5p;6p;7p;8p 9", "-1p", "1:p", "1;2p", "1p;2;3p"};
    int[] places = {0, 2, 1, 2, 0, 1, 0, 1, 2, 1, 3, 4, 2, 3, 2, 2, 0, 0, 1, 0, 0, 6, 3, 3, 3, 23, 23, 24, 0, 1, 1, 4};
    CoinNotThere x = new CoinNotThere();
    x.watcher(0, 0);
    due.is("house faults: rows", texts.length, places.length);
    for (int i = 0; i < texts.length; i++) due.is("house: '" + texts[i] + "'", Due.house(x, texts[i]), -20 - places[i]);
    due.is("house faults: none comes", x.count(0), 1);
  }

  private static void promise13Count() {
    CoinNotThere x = new CoinNotThere();
    Due.seat(x, "0p;1w;2c");
    Due.tell(x, "0:m11x11;1:jx12;2:l1n1;3:x13;4:j;5:x14");
    for (int i = 0; i < 5; i++) x.cover(i, 0, 0, 0);
    for (int i = 0; i < 6; i++) x.point(i, 0);
    int[] many = {3, 4, 1, 2, 5, 6};
    for (int what = 0; what < 6; what++) due.is("count(" + what + ")", x.count(what), many[what]);
    for (int what : new int[] {-1, 6, LEAST, MOST}) due.is("count: wrong", x.count(what), BAD);
    x.act(0, 1, 0, 0);
    due.is("count: a SLIP less", x.count(1), 3);
  }
}
