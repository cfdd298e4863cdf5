/** Promises 33 to 37: sheets that may be missing. */
public final class SheetsTest {
  private static final Due due = new Due();
  private static final int BAD = -1, NOT = -2, FULL = -3, NULL = -11, CAST = -12, INDEX = -13, SIZE = -14;
  private static final int LEAST = Integer.MIN_VALUE, MOST = Integer.MAX_VALUE;

  public static void main(String[] args) {
    promise33Eyes();
    promise33EyesRefused();
    promise34Sheet();
    promise35Drop();
    promise36Item();
    promise37Copy();
    promise37CopyRefused();
    due.end();
  }

  /** In BEATS 0 .. 3 the PLACE of that number draws most: POINTS there tell what an item is. */
  private static CoinNotThere withReader() {
    CoinNotThere x = new CoinNotThere();
    Due.tell(x, "0:m09;1:m19;2:m29;3:m39");
    return x;
  }

  /** An item as eyes take it: a PLACE, -1, or NOT. */
  private static int read(CoinNotThere x, int sheet, int lane, int i) {
    for (int place = 0; place < 4; place++) {
      x.clear();
      int came = x.eyes(place, sheet, lane, i, 1);
      if (came < 0) return came;
      if (came == 0) return -1;
      if (x.fits(1) == 1) return place;
    }
    return 99;
  }

  private static void fill(CoinNotThere x, int sheet, int lane, int... items) {
    x.sheet(sheet, lane, items.length);
    for (int i = 0; i < items.length; i++) x.item(sheet, lane, i, items[i]);
  }

  private static void holds(CoinNotThere x, String of, int sheet, int lane, int... items) {
    for (int i = 0; i < items.length; i++) due.is(of + ", item " + i, read(x, sheet, lane, i), items[i]);
  }

  private static void promise33Eyes() {
    CoinNotThere x = withReader();
    fill(x, 2, 1, 3, 0, 1, -1, 3, 0);
    due.is("eyes: BEATS go on at a blink", x.eyes(0, 2, 1, 1, 4), 3);
    due.is("eyes: how many", x.count(5), 3);
    due.is("eyes: all are where they are drawn", x.fits(1), 3);
    due.is("eyes: from another BEAT on", x.eyes(1, 2, 1, 1, 2), 2);
    due.is("eyes: these are not", x.fits(1), 3);
    due.is("eyes: a blink alone", x.eyes(9, 2, 1, 3, 1), 0);
    x.clear();
    fill(x, 3, 2, 0, 1, 2, 3, 3, 3, 3, 3, 3, 3, 3, 3, 3, 3, 3, 3);
    due.is("eyes: 16 of them", x.eyes(0, 3, 2, 0, 16), 16);
    due.is("eyes: not all have room", x.eyes(0, 3, 2, 0, 9), FULL);
    due.is("eyes: none came", x.count(5), 16);
    due.is("eyes: just room", x.eyes(8, 3, 2, 8, 8), 8);
    due.is("eyes: none more", x.eyes(15, 3, 2, 0, 1), FULL);
    due.is("eyes: a blink needs no room", x.eyes(15, 2, 1, 3, 1), 0);
    due.is("eyes: 24", x.count(5), 24);
    CoinNotThere y = withReader();
    fill(y, 0, 0, -1, 0, -1, 0, -1, 0, -1, 0, -1, 0, -1, 0, -1, 0, -1, 0);
    y.eyes(0, 0, 0, 0, 16);
    y.eyes(0, 0, 0, 0, 16);
    due.is("eyes: half of them blinks, full", y.eyes(0, 0, 0, 0, 16), 8);
    due.is("eyes: half of them blinks, fuller", y.eyes(0, 0, 0, 0, 2), FULL);
  }

  private static void promise33EyesRefused() {
    CoinNotThere x = new CoinNotThere();
    int[][] wrong = {{-1, 0, 0, 0, 1}, {16, 0, 0, 0, 1}, {0, -1, 0, 0, 1}, {0, 4, 0, 0, 1}, {0, 0, -1, 0, 1}, {0, 0, 3, 0, 1},
        {0, 0, 0, 0, 0}, {0, 0, 0, 0, 17}, {0, 0, 0, 0, -1}, {15, 0, 0, 0, 2}, {1, 0, 0, 0, 16}, {LEAST, 0, 0, 0, 1},
        {MOST, 0, 0, 0, 1}, {0, LEAST, 0, 0, 1}, {0, MOST, 0, 0, 1}, {0, 0, LEAST, 0, 1}, {0, 0, MOST, 0, 1},
        {0, 0, 0, 0, LEAST}, {0, 0, 0, 0, MOST}};
    for (int[] w : wrong) due.is("eyes: wrong", x.eyes(w[0], w[1], w[2], w[3], w[4]), BAD);
    due.is("eyes: missing", x.eyes(0, 0, 0, 0, 1), NULL);
    due.is("eyes: missing and INDEX", x.eyes(0, 0, 0, -1, 1), NULL);
    fill(x, 0, 0, 0, 4, -2, 1);
    for (int[] w : wrong) due.is("eyes: wrong", x.eyes(w[0], w[1], w[2], w[3], w[4]), BAD);
    due.is("eyes: another LANE", x.eyes(0, 0, 1, 0, 1), CAST);
    due.is("eyes: another LANE and INDEX", x.eyes(0, 0, 2, 9, 1), CAST);
    for (int i : new int[] {-1, 4, 5, LEAST, MOST}) due.is("eyes: INDEX", x.eyes(0, 0, 0, i, 1), INDEX);
    due.is("eyes: too many", x.eyes(0, 0, 0, 3, 2), INDEX);
    due.is("eyes: too many and one is not as told", x.eyes(0, 0, 0, 0, 5), INDEX);
    due.is("eyes: 4 is no PLACE", x.eyes(0, 0, 0, 0, 2), NOT);
    due.is("eyes: -2 is no PLACE", x.eyes(0, 0, 0, 2, 2), NOT);
    due.is("eyes: none came", x.count(5), 0);
    for (int i = 0; i < 24; i++) x.point(0, 0);
    due.is("eyes: not as told ahead of FULL", x.eyes(0, 0, 0, 0, 4), NOT);
  }

  private static void promise34Sheet() {
    CoinNotThere x = withReader();
    int[][] wrong = {{-1, 0, 1}, {4, 0, 1}, {0, -1, 1}, {0, 3, 1}, {0, 0, 17}, {4, 0, -1}, {0, 3, -1}, {LEAST, 0, 1}, {MOST, 0, 1},
        {0, LEAST, 1}, {0, MOST, 1}, {0, 0, MOST}};
    for (int[] w : wrong) due.is("sheet: wrong", x.sheet(w[0], w[1], w[2]), BAD);
    due.is("sheet: SIZE", x.sheet(0, 0, -1), SIZE);
    due.is("sheet: SIZE", x.sheet(0, 0, LEAST), SIZE);
    due.is("sheet: refused ones make none", x.drop(0), NULL);
    for (int lane = 0; lane < 3; lane++) due.is("sheet: of each LANE", x.sheet(lane, lane, 16), 16);
    due.is("sheet: of no items", x.sheet(3, 0, 0), 0);
    fill(x, 0, 0, 1, 2, 3);
    due.is("sheet: a new row", x.sheet(0, 0, 3), 3);
    holds(x, "sheet: a new row", 0, 0, 0, 0, 0);
    due.is("sheet: of another LANE", x.sheet(0, 2, 2), 2);
    due.is("sheet: CAST to the old LANE", x.item(0, 0, 0, 0), CAST);
    due.is("sheet: fewer items", x.item(0, 2, 2, 0), INDEX);
    due.is("sheet: refused by SIZE", x.sheet(0, 0, -1), SIZE);
    due.is("sheet: the row is still there", x.drop(0), 2);
  }

  private static void promise35Drop() {
    CoinNotThere x = new CoinNotThere();
    for (int sheet : new int[] {-1, 4, LEAST, MOST}) due.is("drop: wrong", x.drop(sheet), BAD);
    due.is("drop: nothing", x.drop(3), NULL);
    x.sheet(3, 1, 16);
    x.sheet(2, 1, 0);
    due.is("drop: 16", x.drop(3), 16);
    due.is("drop: nothing more", x.drop(3), NULL);
    due.is("drop: a row of none", x.drop(2), 0);
    due.is("drop: a row of none is gone", x.drop(2), NULL);
  }

  private static void promise36Item() {
    CoinNotThere x = withReader();
    due.is("item: missing", x.item(0, 0, 0, 0), NULL);
    x.sheet(0, 0, 4);
    x.sheet(1, 1, 4);
    x.sheet(2, 2, 4);
    due.is("item", x.item(0, 0, 0, 259), 1);
    due.is("item", x.item(0, 0, 1, 255), 1);
    due.is("item", x.item(0, 0, 2, -254), 1);
    due.is("item", x.item(0, 0, 3, 127), 1);
    holds(x, "item: a byte", 0, 0, 3, -1, 2, NOT);
    due.is("item", x.item(1, 1, 0, 65539), 1);
    due.is("item", x.item(1, 1, 1, 65535), 1);
    due.is("item", x.item(1, 1, 2, 256), 1);
    due.is("item", x.item(1, 1, 3, -65534), 1);
    holds(x, "item: a short", 1, 1, 3, -1, NOT, 2);
    due.is("item", x.item(2, 2, 0, 65539), 1);
    due.is("item", x.item(2, 2, 1, -1), 1);
    due.is("item", x.item(2, 2, 2, LEAST), 1);
    due.is("item", x.item(2, 2, 3, 1), 1);
    holds(x, "item: an int", 2, 2, NOT, -1, NOT, 1);
    due.is("item: another LANE", x.item(0, 1, 0, 0), CAST);
    due.is("item: another LANE and INDEX", x.item(0, 1, 9, 0), CAST);
    for (int i : new int[] {-1, 4, LEAST, MOST}) due.is("item: INDEX", x.item(0, 0, i, 0), INDEX);
    int[][] wrong = {{-1, 0}, {4, 0}, {0, -1}, {0, 3}, {LEAST, 0}, {MOST, 0}, {0, LEAST}, {0, MOST}};
    for (int[] w : wrong) due.is("item: wrong", x.item(w[0], w[1], 0, 0), BAD);
    holds(x, "item: as they were", 0, 0, 3, -1, 2, NOT);
  }

  private static void promise37Copy() {
    CoinNotThere x = withReader();
    fill(x, 0, 0, 0, 1, 2, 3, -1);
    fill(x, 1, 0, 3, 3, 3);
    due.is("copy", x.copy(0, 1, 1, 0, 2), 2);
    holds(x, "copy: to", 1, 0, 1, 2, 3);
    holds(x, "copy: from", 0, 0, 0, 1, 2, 3, -1);
    due.is("copy: up, over itself", x.copy(0, 0, 0, 1, 4), 4);
    holds(x, "copy: up", 0, 0, 0, 0, 1, 2, 3);
    due.is("copy: down, over itself", x.copy(0, 2, 0, 0, 3), 3);
    holds(x, "copy: down", 0, 0, 1, 2, 3, 2, 3);
    due.is("copy: none", x.copy(0, 5, 1, 3, 0), 0);
    due.is("copy: all", x.copy(1, 0, 0, 2, 3), 3);
    holds(x, "copy: all", 0, 0, 1, 2, 1, 2, 3);
    x.sheet(2, 2, 0);
    x.sheet(3, 2, 0);
    due.is("copy: none of none", x.copy(2, 0, 3, 0, 0), 0);
    due.is("copy: none above none", x.copy(2, 1, 3, 0, 0), INDEX);
  }

  private static void promise37CopyRefused() {
    CoinNotThere x = withReader();
    due.is("copy: both missing", x.copy(0, 0, 1, 0, 1), NULL);
    fill(x, 0, 1, 0, 1, 2);
    due.is("copy: to a missing one", x.copy(0, 0, 1, 0, 1), NULL);
    due.is("copy: from a missing one", x.copy(1, 0, 0, 0, 1), NULL);
    due.is("copy: missing and INDEX", x.copy(1, 0, 0, 0, -1), NULL);
    fill(x, 1, 2, 3, 3);
    due.is("copy: unlike LANES", x.copy(0, 0, 1, 0, 1), CAST);
    due.is("copy: unlike LANES and INDEX", x.copy(0, 0, 1, 0, -1), CAST);
    fill(x, 1, 1, 3, 3);
    int[][] wrong = {{-1, 0, 1}, {0, -1, 1}, {0, 0, -1}, {4, 0, 0}, {0, 3, 0}, {3, 0, 1}, {2, 0, 2}, {0, 1, 2}, {0, 0, 3},
        {LEAST, 0, 0}, {MOST, 0, 1}, {0, LEAST, 0}, {0, MOST, 1}, {0, 0, LEAST}, {0, 0, MOST}, {3, 2, MOST}, {1, 1, MOST}};
    for (int[] w : wrong) due.is("copy: INDEX", x.copy(0, w[0], 1, w[1], w[2]), INDEX);
    for (int s : new int[] {-1, 4, LEAST, MOST}) {
      due.is("copy: from wrong", x.copy(s, 0, 0, 0, 1), BAD);
      due.is("copy: to wrong", x.copy(0, 0, s, 0, 1), BAD);
      due.is("copy: to wrong, from a missing one", x.copy(3, 0, s, 0, -1), BAD);
    }
    holds(x, "copy: as they were", 1, 1, 3, 3);
  }
}
