/** Promises 11 and 12 at their boundaries: ROUTINES and HOUSES as TEXTS, and their FAULTS. */
public final class TextEdgesTest {
  private static final Edges edges = new Edges();
  private static final int BAD = -1, FULL = -3;
  private static final Digest.Past NEW = Edges.NEW;
  private static final String DIGITS = "0123456789";
  private static final String[] EIGHT = {"0:;1:;2:;3:;4:;5:;6:;7:", "0p;1p;2p;3p;4p;5p;6p;7p"};

  /** As RICH, with an empty TAPE. */
  private static final Digest.Past TOLD = x -> { Edges.RICH.of(x); x.house(); };

  public static void main(String[] args) {
    p11WhatMayStand();
    p11OrderWithinAClause();
    p11Beats();
    p11PlacesAndSizes();
    p11OneToEightClauses();
    p11AllOfABeatBecomesSo();
    p11EmptyTape();
    p12WhatMayStand();
    p12Seats();
    p12KindsInThisOrder();
    p12OneToEight();
    p12SeatIsTaken();
    p12SeatToldAhead();
    p12NotAllHaveRoom();
    p12FaultAheadOfFull();
    p12EmptyTape();
    numbersThatMayNotBe();
    zerosAhead();
    blanksCountForNothing();
    blanksEndANumber();
    faultsAtTheEnd();
    faultBehindBlanks();
    faultsTellNothing();
    textsOfHundredBytes();
    edges.end();
  }

  private static int read(CoinNotThere x, boolean asHouse, String text) {
    return asHouse ? Due.house(x, text) : Due.routine(x, text);
  }

  private static void isFault(boolean asHouse, String text, int place) {
    edges.answers((asHouse ? "house '" : "routine '") + text + "'", NEW, x -> read(x, asHouse, text), -20 - place);
  }

  private static void isRead(boolean asHouse, String text, int many) {
    edges.answers((asHouse ? "house '" : "routine '") + text + "'", NEW, x -> read(x, asHouse, text), many);
  }

  /**
   * Behind a part of a text: of all bytes those that may stand there give no FAULT at their place, all others do, blanks ahead
   * or not; the end is a FAULT or not. Digits that would make a number too large are told by numbersThatMayNotBe.
   */
  private static void next(boolean asHouse, String part, String may, String tooLarge, int manyAtEnd) {
    for (char c = 33; c < 127; c++) {
      if (tooLarge.indexOf(c) >= 0) continue;
      if (may.indexOf(c) < 0) {
        isFault(asHouse, part + c, part.length());
        isFault(asHouse, part + "  " + c, part.length() + 2);
        isFault(asHouse, part + c + "~", part.length());
      } else {
        CoinNotThere x = new CoinNotThere();
        edges.is("'" + part + c + "': " + c + " may stand there", read(x, asHouse, part + c) == -20 - part.length() ? 0 : 1, 1);
      }
    }
    if (manyAtEnd > 0) {
      isRead(asHouse, part, manyAtEnd);
      isRead(asHouse, part + "   ", manyAtEnd);
    } else {
      isFault(asHouse, part, part.length());
      isFault(asHouse, part + "   ", part.length() + 3);
    }
  }

  /** "a BEAT (a number), :, then in this order, each or not: m and two digits, l and a digit, n and a digit, j, x and two digits". */
  private static void p11WhatMayStand() {
    next(false, "", DIGITS, "", 0);
    next(false, "0", DIGITS + ":", "", 0);
    next(false, "1", "012345:", "6789", 0);
    next(false, "9", ":", DIGITS, 0);
    next(false, "15", ":", DIGITS, 0);
    for (String ahead : new String[] {"", "3:j;", "0:m11l1n1jx11;1:;"}) {
      int many = ahead.isEmpty() ? 1 : ahead.length() == 4 ? 2 : 3;
      next(false, ahead + "1:", "mlnjx;", "", many);
      next(false, ahead + "1:m", "0123", "", 0);
      next(false, ahead + "1:m0", "123456789", "", 0);
      next(false, ahead + "1:m39", "lnjx;", "", many);
      next(false, ahead + "1:l", "0123", "", 0);
      next(false, ahead + "1:l3", "njx;", "", many);
      next(false, ahead + "1:n", "0123", "", 0);
      next(false, ahead + "1:n0", "jx;", "", many);
      next(false, ahead + "1:j", "x;", "", many);
      next(false, ahead + "1:x", "0123", "", 0);
      next(false, ahead + "1:x3", "123456789", "", 0);
      next(false, ahead + "1:x01", ";", "", many);
      next(false, ahead + "1:;", DIGITS, "", 0);
    }
    next(false, "1:m12l3n0j", "x;", "", 1);
    next(false, "1:m12l3n0jx39", ";", "", 1);
  }

  /** "then in this order, each or not": all 32 choices are read, any two the other way round are not. */
  private static void p11OrderWithinAClause() {
    String[] parts = {"m27", "l3", "n0", "j", "x18"};
    for (int set = 0; set < 32; set++) {
      StringBuilder text = new StringBuilder("6:");
      for (int p = 0; p < 5; p++) if ((set >> p & 1) != 0) text.append(parts[p]);
      CoinNotThere x = new CoinNotThere();
      edges.is("routine '" + text + "'", Due.routine(x, text.toString()), 1);
      edges.is("routine '" + text + "': MOVE", x.act(6, 0, 0, 0), (set & 1) != 0 ? 27 : 0);
      edges.is("routine '" + text + "': LOOKS", x.cue(6, 0, -1), (set & 2) != 0 ? 4 : 0);
      edges.is("routine '" + text + "': NAMES", x.cue(6, 1, -1), (set & 4) != 0 ? 1 : 0);
      edges.is("routine '" + text + "': JOKE", x.cue(6, 2, 0), (set & 8) != 0 ? 2 : 1);
      edges.is("routine '" + text + "': SLIP", x.act(6, 1, 0, 0), (set & 16) != 0 ? 18 : 0);
    }
    for (int a = 0; a < 5; a++) {
      for (int b = 0; b <= a; b++) isFault(false, "6:" + parts[a] + parts[b], 2 + parts[a].length());
    }
  }

  /** "BEATS 0 .. 15", each of them. */
  private static void p11Beats() {
    for (int beat = 0; beat < 16; beat++) {
      CoinNotThere x = new CoinNotThere();
      edges.is("routine: BEAT " + beat, Due.routine(x, beat + ":j"), 1);
      edges.is("routine: one JOKE", x.count(3), 1);
      edges.is("routine: in BEAT " + beat, x.cue(beat, 2, 0), 2);
    }
  }

  /** "m and two digits (MOVE: PLACE, SIZE)", "x and two digits (SLIP)": PLACES 0 .. 3, SIZES 1 .. 9, each of them. */
  private static void p11PlacesAndSizes() {
    for (int what = 0; what < 2; what++) {
      String sign = what == 0 ? "m" : "x";
      for (int place = 0; place < 10; place++) {
        for (int size = 0; size < 10; size++) {
          String text = "0:" + sign + place + size;
          if (place > 3) {
            isFault(false, text, 3);
          } else if (size == 0) {
            isFault(false, text, 4);
          } else {
            CoinNotThere x = new CoinNotThere();
            edges.is(text, Due.routine(x, text), 1);
            edges.is(text, x.act(0, what, 0, 0), 10 * place + size);
          }
        }
      }
    }
    for (int what = 0; what < 2; what++) {
      for (int place = 0; place < 4; place++) {
        CoinNotThere x = new CoinNotThere();
        edges.is("LOOKS, NAMES", Due.routine(x, "0:" + (what == 0 ? "l" : "n") + place), 1);
        edges.is("LOOKS, NAMES", x.cue(0, what, -1), 1 + place);
      }
    }
  }

  /** "1 to 8 CLAUSES with ; between", "how many CLAUSES". */
  private static void p11OneToEightClauses() {
    isFault(false, "", 0);
    isFault(false, ";", 0);
    isFault(false, ";1:", 0);
    StringBuilder text = new StringBuilder();
    for (int many = 1; many <= 8; many++) {
      text.append(many == 1 ? "" : ";").append(many).append(":");
      isRead(false, text.toString(), many);
      isFault(false, text + ";", many < 8 ? text.length() + 1 : text.length());
      isFault(false, text + ";;", many < 8 ? text.length() + 1 : text.length());
      isFault(false, text + "1:", text.length());
    }
    isFault(false, EIGHT[0] + ";8:", EIGHT[0].length());
    isFault(false, EIGHT[0] + ";16:", EIGHT[0].length());
    isFault(false, EIGHT[0] + "  ;8:", EIGHT[0].length() + 2);
    next(false, EIGHT[0], "mlnjx", "", 8);
    next(false, EIGHT[0] + "x01", "", "", 8);
    isRead(false, "4:;4:;4:;4:;4:;4:;4:;4:", 8);
  }

  /** "all that is told of that BEAT becomes so": what is not told there is gone, of the same BEAT the later CLAUSE counts. */
  private static void p11AllOfABeatBecomesSo() {
    Digest.Past all = x -> Due.tell(x, "0:m11l1n1jx11;8:m22l2n2jx22;15:m33l3n3jx33");
    for (int beat : new int[] {0, 8, 15}) {
      edges.alike("routine: of BEAT " + beat + " nothing is left", x -> {
        all.of(x);
        x.act(beat, 0, 0, 0);
        x.act(beat, 1, 0, 0);
        x.cue(beat, 0, -1);
        x.cue(beat, 1, -1);
        x.cue(beat, 2, 0);
      }, x -> { all.of(x); Due.tell(x, beat + ":"); });
      edges.alike("routine: the later CLAUSE", x -> { all.of(x); Due.tell(x, beat + ":l0"); },
          x -> { all.of(x); Due.tell(x, beat + ":m39n3jx39;" + beat + ":;" + beat + ":l0"); });
    }
    edges.alike("routine: BEATS that are not told stay", all, x -> { all.of(x); Due.tell(x, "1:;7:;9:;14:"); });
  }

  /** "THE TAPE, which is empty then (by a FAULT, too)". */
  private static void p11EmptyTape() {
    edges.answers("routine: behind one", x -> { NEW.of(x); Due.tell(x, "1:j"); }, x -> x.routine(), -20);
    edges.answers("routine: behind one, type", x -> { NEW.of(x); Due.tell(x, "1:j"); }, x -> x.type(32, 1), 1);
    edges.answers("routine: behind a FAULT", x -> Due.routine(x, "1:j~"), x -> x.routine(), -20);
    edges.answers("routine: behind a FAULT, type", x -> Due.routine(x, "1:j~"), x -> x.type(32, 1), 1);
    edges.answers("routine: behind a FAULT, house", x -> Due.routine(x, "1p"), x -> x.house(), -20);
    edges.changesNothing("routine: of an empty TAPE", TOLD, x -> x.routine(), -20);
  }

  /** "a SEAT (a number) and p w c x". */
  private static void p12WhatMayStand() {
    next(true, "", DIGITS, "", 0);
    next(true, "0", DIGITS + "pwcx", "", 0);
    next(true, "1", "01pwcx", "23456789", 0);
    next(true, "2", "pwcx", DIGITS, 0);
    next(true, "11", "pwcx", DIGITS, 0);
    for (char kind : "pwcx".toCharArray()) {
      next(true, "5" + kind, ";", "", 1);
      next(true, "5" + kind + ";", "0123456789", "5", 0);
      next(true, "5" + kind + ";0", "012346789pwcx", "5", 0);
      next(true, "5" + kind + ";4", "pwcx", DIGITS, 0);
      next(true, "5" + kind + ";4p", ";", "", 2);
    }
    next(true, EIGHT[1], "", "", 8);
  }

  /** "SEATS are 0 .. 11", each of them. */
  private static void p12Seats() {
    for (int seat = 0; seat < 12; seat++) {
      CoinNotThere x = new CoinNotThere();
      edges.is("house: SEAT " + seat, Due.house(x, seat + "x"), 1);
      edges.is("house: SEAT " + seat + " is told", x.told(0, 0), seat);
      edges.is("house: it is taken", x.watcher(seat, 0), -2);
    }
  }

  /** "p w c x (KINDS in this order)", "WATCHERS that come": behind those that are there, a WARNED one with DOUBT 3. */
  private static void p12KindsInThisOrder() {
    for (int kind = 0; kind < 4; kind++) {
      CoinNotThere x = new CoinNotThere();
      x.watcher(9, 3 - kind);
      edges.is("house: KIND " + kind, Due.house(x, "0" + "pwcx".charAt(kind) + ";11p"), 2);
      edges.is("house: KIND is told", x.told(1, 1), kind);
      edges.is("house: who was there", x.told(0, 1), 3 - kind);
      edges.is("house: the next", x.told(2, 0), 11);
      edges.is("house: DOUBT", x.doubt(1, 0), kind == 1 ? 3 : -12);
    }
  }

  /** "1 to 8 with ; between", "how many come". */
  private static void p12OneToEight() {
    isFault(true, "", 0);
    isFault(true, ";", 0);
    isFault(true, ";1p", 0);
    StringBuilder text = new StringBuilder();
    for (int many = 1; many <= 8; many++) {
      text.append(many == 1 ? "" : ";").append(many).append("p");
      isRead(true, text.toString(), many);
      String whole = text.toString();
      edges.answers("house: " + many + " are there", x -> Due.house(x, whole), x -> x.count(0), many);
      isFault(true, text + ";", many < 8 ? text.length() + 1 : text.length());
      isFault(true, text + "9p", text.length());
    }
    isFault(true, EIGHT[1] + ";8p", EIGHT[1].length());
    isFault(true, EIGHT[1] + " ;8p", EIGHT[1].length() + 1);
    isFault(true, EIGHT[1] + ";12p", EIGHT[1].length());
  }

  /** "of a SEAT that is taken .. its first byte": by one who was there. */
  private static void p12SeatIsTaken() {
    for (int seat = 0; seat < 12; seat++) {
      int s = seat;
      Digest.Past one = x -> x.watcher(s, 2);
      edges.changesNothing("house: SEAT " + s + " is taken", one, x -> Due.house(x, s + "p"), -20);
      edges.changesNothing("house: behind blanks and with 0s ahead", one, x -> Due.house(x, "  00" + s + " p"), -22);
      edges.changesNothing("house: ahead of a wrong KIND", one, x -> Due.house(x, " " + s + "z"), -21);
      edges.changesNothing("house: ahead of the end", one, x -> Due.house(x, " " + s), -21);
      int other = (s + 1) % 12;
      edges.changesNothing("house: behind another", one, x -> Due.house(x, other + "p;" + s + "p"), -20 - (other + "p;").length());
      edges.answers("house: a SEAT that is left is free", x -> { one.of(x); x.leave(0); }, x -> Due.house(x, s + "p"), 1);
    }
    edges.answers("house: a wrong byte ahead of a taken SEAT", x -> x.watcher(3, 0), x -> Due.house(x, "1p,3p"), -22);
  }

  /** "of a SEAT that is .. told ahead, its first byte": by the same TEXT. */
  private static void p12SeatToldAhead() {
    for (int seat = 0; seat < 12; seat++) {
      String first = seat + "p;";
      isFault(true, first + seat + "p", first.length());
      isFault(true, first + "0" + seat + "x", first.length());
      isFault(true, first + "  00" + seat + " w", first.length() + 2);
      isFault(true, first + seat, first.length());
      isFault(true, first + seat + "z", first.length());
    }
    isFault(true, "0p;1p;2p;3p;4p;5p;6p;0p", 21);
    isFault(true, "0p;1p;2p;3p;4p;5p;6p;6p", 21);
  }

  private static String comers(int from, int many) {
    StringBuilder text = new StringBuilder();
    for (int i = 0; i < many; i++) text.append(i == 0 ? "" : ";").append(from + i).append("pwcx".charAt(i % 4));
    return text.toString();
  }

  /** "FULL: not all have room (none comes)": 8 in all have room, 9 have not. */
  private static void p12NotAllHaveRoom() {
    for (int there = 0; there <= 8; there++) {
      for (int come = 1; come <= 8 && there + come <= 12; come++) {
        int first = there;
        String text = comers(there, come);
        Digest.Past past = x -> { for (int seat = 0; seat < first; seat++) x.watcher(seat, 1); };
        String of = "house: " + come + " come to " + there;
        if (there + come > 8) {
          edges.changesNothing(of, past, x -> Due.house(x, text), FULL);
        } else {
          edges.answers(of, past, x -> Due.house(x, text), come);
          edges.answers(of + ", all are there", x -> { past.of(x); Due.house(x, text); }, x -> x.count(0), there + come);
        }
      }
    }
    edges.answers("house: room again", x -> { Due.seat(x, EIGHT[1]); x.leave(0); }, x -> Due.house(x, "11x"), 1);
  }

  /** "A FAULT (none comes); FULL": a FAULT is named first. */
  private static void p12FaultAheadOfFull() {
    Digest.Past eight = x -> Due.seat(x, EIGHT[1]);
    edges.changesNothing("house: full, a FAULT behind", eight, x -> Due.house(x, "8p;9z"), -24);
    edges.changesNothing("house: full, the end", eight, x -> Due.house(x, "8p;9"), -24);
    edges.changesNothing("house: full, no SEAT", eight, x -> Due.house(x, "8p;12p"), -23);
    edges.changesNothing("house: full, a taken SEAT", eight, x -> Due.house(x, "8p;7p"), -23);
    edges.changesNothing("house: full, a SEAT told ahead", eight, x -> Due.house(x, "8p;8p"), -23);
    edges.changesNothing("house: full, an empty TAPE", eight, x -> x.house(), -20);
    Digest.Past six = x -> Due.seat(x, "0p;1p;2p;3p;4p;5p");
    edges.changesNothing("house: the ninth SEAT told ahead", six, x -> Due.house(x, "6p;7p;8p;9p;8p"), -32);
    edges.changesNothing("house: no FAULT", six, x -> Due.house(x, "6p;7p;8p"), FULL);
  }

  /** "THE TAPE, which is empty then (by a FAULT, by FULL, too)". */
  private static void p12EmptyTape() {
    edges.answers("house: behind one", x -> Due.seat(x, "1p"), x -> x.type(32, 1), 1);
    edges.answers("house: behind one, house", x -> Due.seat(x, "1p"), x -> x.house(), -20);
    edges.answers("house: behind a FAULT", x -> Due.house(x, "1p~"), x -> x.type(32, 1), 1);
    edges.answers("house: behind a FAULT, routine", x -> Due.house(x, "1:"), x -> x.routine(), -20);
    Digest.Past full = x -> { Due.seat(x, EIGHT[1]); Due.house(x, "8p"); };
    edges.answers("house: behind FULL", full, x -> x.type(32, 1), 1);
    edges.answers("house: behind FULL, house", x -> { full.of(x); x.leave(0); }, x -> x.house(), -20);
    edges.changesNothing("house: of an empty TAPE", TOLD, x -> x.house(), -20);
  }

  /** "of a number that may not be its first byte": however far it is off, whatever is behind it. */
  private static void numbersThatMayNotBe() {
    String[] tooLarge = {"16", "17", "20", "99", "100", "150", "160", "256", "272", "1000", "65536", "65551", "2147483647", "2147483648",
        "4294967296", "4294967297", "4294967311", "9223372036854775807", "18446744073709551616", "18446744073709551627",
        "99999999999999999999999999999999999999999999999999"};
    for (String n : tooLarge) numberMayNotBe(n);
    for (int n = 16; n < 300; n++) numberMayNotBe(Integer.toString(n));
    for (int n = 12; n < 16; n++) {
      isFault(true, n + "p", 0);
      isFault(true, "3p; " + n + "p", 4);
      isRead(false, n + ":", 1);
    }
    isRead(false, "15:", 1);
    isRead(true, "11p", 1);
  }

  private static void numberMayNotBe(String n) {
    for (String zeros : new String[] {"", "0", "000"}) {
      isFault(false, zeros + n + ":", 0);
      isFault(false, zeros + n, 0);
      isFault(false, zeros + n + "~", 0);
      isFault(false, "1:;  " + zeros + n + ":", 5);
      isFault(true, zeros + n + "p", 0);
      isFault(true, zeros + n, 0);
      isFault(true, zeros + n + "~", 0);
      isFault(true, "1p;  " + zeros + n + "p", 5);
    }
  }

  /** "a number may have 0s ahead". */
  private static void zerosAhead() {
    for (int zeros = 0; zeros <= 97; zeros += zeros < 12 ? 1 : 17) {
      for (int n = 0; n < 16; n++) {
        String number = "0".repeat(zeros) + n;
        if (number.length() > 98) continue;
        int at = n;
        edges.answers("routine '" + number + ":j'", x -> Due.routine(x, number + ":j"), x -> x.cue(at, 2, 0), 2);
        if (n < 12) edges.answers("house '" + number + "c'", x -> Due.house(x, number + "c"), x -> x.told(0, 0), n);
      }
    }
    isRead(false, "00:", 1);
    isRead(true, "00p", 1);
  }

  /** "bytes 32 count for nothing": ahead, between all bytes (but those of a number), behind. */
  private static void blanksCountForNothing() {
    String[] routines = {"5:m12l3n0jx39", "0:;15:j", "7:x11;7:"};
    for (String text : routines) {
      for (int at = 0; at <= text.length(); at++) {
        if (at > 0 && at < text.length() && text.startsWith("15", at - 1)) continue;
        String wide = text.substring(0, at) + "   " + text.substring(at);
        edges.alike("routine '" + wide + "'", x -> Due.routine(x, text), x -> Due.routine(x, wide));
        isRead(false, wide, text.indexOf(';') < 0 ? 1 : 2);
      }
    }
    String house = "3p;0w;7c;11x";
    for (int at = 0; at <= house.length(); at++) {
      if (house.startsWith("11", at - 1)) continue;
      String wide = house.substring(0, at) + " " + house.substring(at);
      edges.alike("house '" + wide + "'", x -> Due.house(x, house), x -> Due.house(x, wide));
      isRead(true, wide, 4);
    }
    isRead(false, " 5 : m 1 2 l 3 n 0 j x 3 9 ; 6 : ", 2);
    isRead(true, " 5 p ; 6 x ", 2);
  }

  /** "but end a number": the digit behind them can't stand there. */
  private static void blanksEndANumber() {
    isFault(false, "1 5:", 2);
    isFault(false, "0 0:", 2);
    isFault(false, "1    6:", 5);
    isFault(false, "1:; 1 1:", 6);
    isFault(true, "1 1p", 2);
    isFault(true, "0 0p", 2);
    isFault(true, "1p;0   2p", 7);
    isFault(false, "16 :", 0);
    isFault(false, "1 6", 2);
  }

  /** "(the end: how many bytes there are)": blanks at the end are bytes, too. */
  private static void faultsAtTheEnd() {
    String[] open = {"", "1", "15", "1:m", "1:m2", "1:l", "1:n", "1:x", "1:x0", "1:;", "1:j;2", "1:j;2:;"};
    for (String text : open) {
      for (int blanks = 0; blanks < 4; blanks++) isFault(false, text + " ".repeat(blanks), text.length() + blanks);
    }
    String[] openHouse = {"", "1", "11", "1p;", "1p;2", "1p;2w;"};
    for (String text : openHouse) {
      for (int blanks = 0; blanks < 4; blanks++) isFault(true, text + " ".repeat(blanks), text.length() + blanks);
    }
    isFault(false, " ".repeat(99), 99);
    isFault(false, " ".repeat(100), 100);
    isFault(true, " ".repeat(100), 100);
    isFault(false, "0".repeat(100), 100);
    isFault(true, "0".repeat(100), 100);
  }

  /** "the first byte (behind blanks) that can't stand there". */
  private static void faultBehindBlanks() {
    isFault(false, "   ~", 3);
    isFault(false, "1   ~", 4);
    isFault(false, "1:m   4", 6);
    isFault(false, "1:m1   0", 7);
    isFault(false, "1:m11   m11", 8);
    isFault(false, "1:  ,  ,", 4);
    isFault(true, "   ~", 3);
    isFault(true, "1   z", 4);
    isFault(true, "1p   w", 5);
    isFault(true, "1p ,,", 3);
    isFault(false, " ".repeat(99) + "~", 99);
    isFault(true, "~" + " ".repeat(99), 0);
  }

  /** "A FAULT (nothing of it is told)", "A FAULT (none comes)". */
  private static void faultsTellNothing() {
    String[] routines = {"0:;3:;4:;7:;~", "0:m39l3n3jx39;1:m11l1n1jx11;16:", "0:m39l3n3jx39;15:x1", "2:j;3:j;4:j;5:4", "0:m31l", "0:m31l1n",
        "0:m31l1n1jx0", "0:;1:;2:;3:;4:;5:;6:;7:j;"};
    for (String text : routines) {
      edges.alike("routine '" + text + "' tells nothing", TOLD, x -> { TOLD.of(x); Due.routine(x, text); });
      edges.answers("routine '" + text + "' is a FAULT", TOLD, x -> Due.routine(x, text) <= -20 ? 1 : 0, 1);
    }
    for (String text : new String[] {"2p;3p;5w~", "2p;3p;5w;", "2p;3p;2p", "2p;3p;1p", "2p;3p;12p", "2x;3", "2x;3z"}) {
      edges.alike("house '" + text + "': none comes", TOLD, x -> { TOLD.of(x); Due.house(x, text); });
      edges.answers("house '" + text + "' is a FAULT", TOLD, x -> Due.house(x, text) <= -20 ? 1 : 0, 1);
    }
  }

  /** "FULL: 100" of `type`: a TEXT of 100 bytes is read to its last one. */
  private static void textsOfHundredBytes() {
    isRead(false, "0".repeat(97) + "15:", 1);
    isRead(true, "0".repeat(97) + "11x", 1);
    isRead(false, "15:" + " ".repeat(96) + "j", 1);
    isFault(false, "15:" + " ".repeat(96) + "~", 99);
    isFault(true, "11x" + " ".repeat(96) + ";", 100);
    edges.answers("a JOKE by the last byte", x -> Due.routine(x, "15:" + " ".repeat(96) + "j"), x -> x.cue(15, 2, 0), 2);
    String most = "10:m39l3n3jx39;11:m39l3n3jx39;12:m39l3n3jx39;13:m39l3n3jx39;14:m39l3n3jx39;15:m39l3n3jx39";
    String whole = most + ";09:j;8:x11";
    edges.is("100 bytes", whole.length(), 100);
    isRead(false, whole, 8);
    edges.answers("no 101st byte", x -> Due.type(x, whole), x -> x.type(';', 1), FULL);
    edges.answers("no wrong one, either", x -> Due.type(x, whole), x -> x.type(127, 1), BAD);
    edges.answers("all of it is told", x -> Due.routine(x, whole), x -> x.act(15, 1, 0, 0), 39);
    edges.answers("all of it is told", x -> Due.routine(x, whole), x -> x.act(8, 1, 0, 0), 11);
  }
}
