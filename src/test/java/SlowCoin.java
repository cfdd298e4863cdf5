import java.math.BigInteger;
import java.util.ArrayList;
import java.util.List;

/**
 * The document once more, written another way (kinds as classes, odds as exact fractions, texts byte by byte through
 * states, what would be on whole copies), to be run against CoinNotThere. It is slow and makes many objects.
 */
final class SlowCoin {
  private static final int BAD = -1, NOT = -2, FULL = -3, NONE = -4, NULL = -11, CAST = -12, INDEX = -13, SIZE = -14;

  static final class Deed {
    final int place, size;
    Deed(int place, int size) { this.place = place; this.size = size; }
    static int code(Deed d) { return d == null ? 0 : 10 * d.place + d.size; }
  }

  static final class Beat {
    Deed move, slip;
    Integer look, name;
    boolean joke;
    Beat twin() { Beat b = new Beat(); b.move = move; b.slip = slip; b.look = look; b.name = name; b.joke = joke; return b; }
  }

  static class Watcher {
    final int seat;
    Watcher(int seat) { this.seat = seat; }
    int kind() { return 0; }
    boolean hears() { return true; }
    Watcher twin() { return new Watcher(seat); }
    int row() { return seat / 4; }
    int column() { return seat % 4; }

    int drawn(World w, Beat b, int place) {
      int pull = 1;
      if (b.move != null && b.move.place == place) pull += b.move.size;
      if (b.look != null && b.look == place) pull += w.laws[0];
      if (hears() && b.name != null && b.name == place) pull += w.laws[1];
      return pull;
    }

    final int pull(World w, int beat, int place, int k) {
      Beat b = w.beats[beat];
      int learnt = b.slip != null && b.slip.place == place ? w.laws[3] * (k - 1) : 0;
      return drawn(w, b, place) + learnt;
    }

    final int heed(World w, int beat) {
      int before = beat == 0 ? 9 : heed(w, beat - 1);
      Beat b = w.beats[beat];
      if (b.joke) return 0;
      int heed = Math.min(9, before + w.laws[2]);
      return b.name != null && hears() ? Math.max(0, heed - 2) : heed;
    }
  }

  static final class Warned extends Watcher {
    int doubt = 3;
    Warned(int seat) { super(seat); }
    @Override int kind() { return 1; }
    @Override Watcher twin() { Warned t = new Warned(seat); t.doubt = doubt; return t; }
    @Override int drawn(World w, Beat b, int place) {
      boolean looks = b.look != null && b.look == place;
      return super.drawn(w, b, place) + (place < 2 && !looks ? doubt : 0);
    }
  }

  static final class Child extends Watcher {
    Child(int seat) { super(seat); }
    @Override int kind() { return 2; }
    @Override boolean hears() { return false; }
    @Override Watcher twin() { return new Child(seat); }
  }

  static final class Crossed extends Watcher {
    Crossed(int seat) { super(seat); }
    @Override int kind() { return 3; }
    @Override Watcher twin() { return new Crossed(seat); }
    @Override int drawn(World w, Beat b, int place) { return super.drawn(w, b, place < 2 ? 1 - place : place); }
  }

  static Watcher ofKind(int seat, int kind) {
    switch (kind) {
      case 0: return new Watcher(seat);
      case 1: return new Warned(seat);
      case 2: return new Child(seat);
      default: return new Crossed(seat);
    }
  }

  static final class World {
    final Beat[] beats = new Beat[16];
    final int[] laws = {4, 3, 3, 2, 2};
    int column = 1;
    List<Watcher> watchers = new ArrayList<>();
    List<int[]> covers = new ArrayList<>();
    List<int[]> points = new ArrayList<>();
    World() { for (int i = 0; i < 16; i++) beats[i] = new Beat(); }

    World twin() {
      World t = new World();
      for (int i = 0; i < 16; i++) t.beats[i] = beats[i].twin();
      System.arraycopy(laws, 0, t.laws, 0, 5);
      t.column = column;
      for (Watcher w : watchers) t.watchers.add(w.twin());
      for (int[] c : covers) t.covers.add(c.clone());
      for (int[] p : points) t.points.add(p.clone());
      return t;
    }

    boolean can(int seat, int place, int column) {
      int c = seat % 4;
      if (place == 1 && c <= column - 2) return false;
      if (place == 0 && c >= column + 2) return false;
      return true;
    }

    /** Above and below, in lowest terms. */
    BigInteger[] odds(Watcher w, int beat, int k) {
      Deed slip = beats[beat].slip;
      BigInteger above = BigInteger.ZERO, below = BigInteger.ONE;
      if (can(w.seat, slip.place, column)) {
        int s = Math.max(1, slip.size - w.row());
        int heed = w.heed(this, beat);
        int all = 0;
        for (int p = 0; p < 4; p++) all += w.pull(this, beat, p, k);
        // one share for each PLACE where EYES may be
        for (int p = 0; p < 4; p++) {
          int seen = p == slip.place ? heed * s : s > 6 ? heed * (s - 6) : 0;
          BigInteger a = BigInteger.valueOf((long) w.pull(this, beat, p, k) * seen);
          BigInteger b = BigInteger.valueOf(81L * all);
          above = above.multiply(b).add(a.multiply(below));
          below = below.multiply(b);
        }
      }
      BigInteger g = above.gcd(below);
      return new BigInteger[] {above.divide(g), below.divide(g)};
    }

    int sees(int beat, int k) {
      int sum = 0;
      for (Watcher w : watchers) {
        BigInteger[] o = odds(w, beat, k);
        sum += o[0].multiply(BigInteger.valueOf(1000)).divide(o[1]).intValue();
      }
      return sum;
    }

    int seesAll(int k) {
      int sum = 0;
      for (int b = 0; b < 16; b++) if (beats[b].slip != null) sum += sees(b, k);
      return sum;
    }

    World covered(int set) {
      World t = twin();
      for (int c = 0; c < covers.size(); c++) {
        if ((set & 1 << c) == 0) continue;
        int[] cover = covers.get(c);
        Beat b = t.beats[cover[0]];
        if (cover[1] == 0) b.move = new Deed(cover[2], 6);
        if (cover[1] == 1) b.look = cover[2];
        if (cover[1] == 2) b.name = cover[2];
        if (cover[1] == 3) b.joke = true;
      }
      return t;
    }

    int shown(int beat) {
      int sum = 0;
      for (int b = 0; b < 16; b++) {
        if (beats[b].slip == null || b >= beat) continue;
        sum += sees(b, 1) * Math.max(0, 10 - laws[4] * (beat - b)) / 10;
      }
      return sum;
    }

    int fitting(int look) {
      World t = twin();
      t.laws[0] = look;
      Watcher plain = new Watcher(0);
      int many = 0;
      for (int[] p : points) {
        boolean greatest = true;
        for (int place = 0; place < 4; place++) {
          if (plain.pull(t, p[0], place, 1) > plain.pull(t, p[0], p[1], 1)) greatest = false;
        }
        if (greatest) many++;
      }
      return many;
    }
  }

  private World now = new World();
  private World image;
  private String tape = "";
  private final int[] lanes = {-1, -1, -1, -1};
  private final long[][] rows = new long[4][];

  private static boolean in(int v, int least, int most) { return least <= v && v <= most; }
  private boolean there(int w) { return in(w, 0, now.watchers.size() - 1); }

  int act(int beat, int what, int place, int size) {
    if (!in(beat, 0, 15) || !in(what, 0, 1) || !in(place, 0, 3) || !in(size, 0, 9)) return BAD;
    Deed deed = size == 0 ? null : new Deed(place, size);
    Beat b = now.beats[beat];
    int was = Deed.code(what == 0 ? b.move : b.slip);
    if (what == 0) b.move = deed; else b.slip = deed;
    return was;
  }

  int cue(int beat, int what, int v) {
    if (!in(beat, 0, 15) || !in(what, 0, 2) || !in(v, what == 2 ? 0 : -1, what == 2 ? 1 : 3)) return BAD;
    Beat b = now.beats[beat];
    Integer place = v == -1 ? null : Integer.valueOf(v);
    Integer was = what == 0 ? b.look : b.name;
    if (what == 0) b.look = place;
    if (what == 1) b.name = place;
    if (what != 2) return was == null ? 0 : was + 1;
    boolean joke = b.joke;
    b.joke = v == 1;
    return joke ? 2 : 1;
  }

  int stand(int column) {
    if (!in(column, 0, 3)) return BAD;
    int was = now.column;
    now.column = column;
    return was;
  }

  int habit(int what, int v) {
    if (!in(what, 0, 4) || !in(v, 0, what == 4 ? 10 : 9)) return BAD;
    int was = now.laws[what];
    now.laws[what] = v;
    return was;
  }

  private boolean taken(int seat) {
    for (Watcher w : now.watchers) if (w.seat == seat) return true;
    return false;
  }

  int watcher(int seat, int kind) {
    if (!in(seat, 0, 11) || !in(kind, 0, 3)) return BAD;
    if (taken(seat)) return NOT;
    if (now.watchers.size() == 8) return FULL;
    now.watchers.add(ofKind(seat, kind));
    return now.watchers.size() - 1;
  }

  int doubt(int watcher, int v) {
    if (!there(watcher) || !in(v, 0, 9)) return BAD;
    if (!(now.watchers.get(watcher) instanceof Warned)) return CAST;
    Warned w = (Warned) now.watchers.get(watcher);
    int was = w.doubt;
    w.doubt = v;
    return was;
  }

  int told(int watcher, int what) {
    if (!there(watcher) || !in(what, 0, 2)) return BAD;
    Watcher w = now.watchers.get(watcher);
    return what == 0 ? w.seat : what == 1 ? w.kind() : w.heed(now, 15);
  }

  int leave(int watcher) {
    if (!there(watcher)) return BAD;
    now.watchers.remove(watcher);
    return now.watchers.size();
  }

  int type(long w, int n) {
    if (!in(n, 1, 8)) return BAD;
    StringBuilder s = new StringBuilder();
    for (int i = n - 1; i >= 0; i--) s.append((char) (w >>> 8 * i & 255));
    for (int i = 0; i < n; i++) if (s.charAt(i) < 32 || s.charAt(i) > 126) return BAD;
    if (tape.length() + n > 100) return FULL;
    tape += s;
    return tape.length();
  }

  private String takeTape() {
    String t = tape;
    tape = "";
    return t;
  }

  /** The value of the digits from i on, and where they end. */
  private static long[] number(String t, int i) {
    int end = i;
    BigInteger v = BigInteger.ZERO;
    while (end < t.length() && Character.isDigit(t.charAt(end))) {
      v = v.multiply(BigInteger.TEN).add(BigInteger.valueOf(t.charAt(end) - '0'));
      end++;
    }
    return new long[] {v.bitLength() > 31 ? Integer.MAX_VALUE : v.intValue(), end};
  }

  int routine() {
    String t = takeTape();
    World trial = now.twin();
    // states: a number is due; : is due; p PLACE or s SIZE of m, x; l, n; else the greatest sign that may no more come
    char state = '#';
    char of = 0;
    int place = 0, clauses = 0, rank = 0;
    Beat b = null;
    for (int i = 0; i < t.length(); i++) {
      char c = t.charAt(i);
      if (c == ' ') continue;
      int fault = -20 - i;
      if (state == '#') {
        if (!Character.isDigit(c)) return fault;
        long[] n = number(t, i);
        if (n[0] > 15) return fault;
        b = new Beat();
        trial.beats[(int) n[0]] = b;
        i = (int) n[1] - 1;
        state = ':';
      } else if (state == ':') {
        if (c != ':') return fault;
        clauses++;
        rank = 0;
        state = '*';
      } else if (state == 'p') {
        if (c < '0' || c > '3') return fault;
        place = c - '0';
        if (of == 'l') b.look = place;
        if (of == 'n') b.name = place;
        state = of == 'm' || of == 'x' ? 's' : '*';
      } else if (state == 's') {
        if (c < '1' || c > '9') return fault;
        if (of == 'm') b.move = new Deed(place, c - '0'); else b.slip = new Deed(place, c - '0');
        state = '*';
      } else if (c == ';') {
        if (clauses == 8) return fault;
        state = '#';
      } else {
        int r = 1 + "mlnjx".indexOf(c);
        if (r <= rank) return fault;
        rank = r;
        of = c;
        if (c == 'j') b.joke = true; else state = 'p';
      }
    }
    if (state != '*') return -20 - t.length();
    now = trial;
    return clauses;
  }

  int house() {
    String t = takeTape();
    List<Watcher> come = new ArrayList<>();
    int state = 0, seat = 0;
    for (int i = 0; i < t.length(); i++) {
      char c = t.charAt(i);
      if (c == ' ') continue;
      int fault = -20 - i;
      if (state == 0) {
        if (!Character.isDigit(c)) return fault;
        long[] n = number(t, i);
        seat = (int) n[0];
        if (seat > 11 || taken(seat)) return fault;
        for (Watcher w : come) if (w.seat == seat) return fault;
        i = (int) n[1] - 1;
        state = 1;
      } else if (state == 1) {
        int kind = "pwcx".indexOf(c);
        if (kind < 0) return fault;
        come.add(ofKind(seat, kind));
        state = 2;
      } else {
        if (c != ';' || come.size() == 8) return fault;
        state = 0;
      }
    }
    if (state != 2) return -20 - t.length();
    if (now.watchers.size() + come.size() > 8) return FULL;
    now.watchers.addAll(come);
    return come.size();
  }

  int count(int what) {
    int slips = 0, moves = 0, jokes = 0;
    for (Beat b : now.beats) {
      if (b.slip != null) slips++;
      if (b.move != null) moves++;
      if (b.joke) jokes++;
    }
    int[] many = {now.watchers.size(), slips, moves, jokes, now.covers.size(), now.points.size()};
    return in(what, 0, 5) ? many[what] : BAD;
  }

  int pull(int watcher, int beat, int place, int k) {
    if (!there(watcher) || !in(beat, 0, 15) || !in(place, 0, 3) || !in(k, 1, 9)) return BAD;
    return now.watchers.get(watcher).pull(now, beat, place, k);
  }

  int heed(int watcher, int beat) {
    if (!there(watcher) || !in(beat, 0, 15)) return BAD;
    return now.watchers.get(watcher).heed(now, beat);
  }

  int can(int seat, int place) {
    if (!in(seat, 0, 11) || !in(place, 0, 3)) return BAD;
    return now.can(seat, place, now.column) ? 1 : 0;
  }

  int odds(int watcher, int beat, int k, int part) {
    if (!there(watcher) || !in(beat, 0, 15) || !in(k, 1, 9) || !in(part, 0, 1)) return BAD;
    if (now.beats[beat].slip == null) return NOT;
    return now.odds(now.watchers.get(watcher), beat, k)[part].intValueExact();
  }

  int sees(int beat, int k) {
    if (!in(beat, -1, 15) || !in(k, 1, 9)) return BAD;
    if (beat == -1) return now.seesAll(k);
    return now.beats[beat].slip == null ? NOT : now.sees(beat, k);
  }

  int quiet(int beat, int what) {
    if (!in(beat, 0, 15) || !in(what, 0, 1)) return BAD;
    Deed slip = now.beats[beat].slip;
    if (slip == null) return NOT;
    int[] best = null;
    for (int b = 15; b >= 0; b--) {
      World t = now.twin();
      t.beats[beat].slip = null;
      if (t.beats[b].slip != null) continue;
      t.beats[b].slip = slip;
      if (best == null || t.sees(b, 1) <= best[1]) best = new int[] {b, t.sees(b, 1)};
    }
    return best[what];
  }

  int cover(int beat, int kind, int place, int cost) {
    if (!in(beat, 0, 15) || !in(kind, 0, 3) || !in(place, 0, 3) || !in(cost, 0, 99) || kind == 3 && place != 0) return BAD;
    if (now.covers.size() == 8) return FULL;
    now.covers.add(new int[] {beat, kind, place, cost});
    return now.covers.size() - 1;
  }

  int does(int cover, int what) {
    if (!in(cover, 0, now.covers.size() - 1) || !in(what, 0, 1)) return BAD - 100000;
    if (what == 0) return now.covered(0).seesAll(1) - now.covered(1 << cover).seesAll(1);
    return now.covered(255 & ~(1 << cover)).seesAll(1) - now.covered(255).seesAll(1);
  }

  int bought(int coin, int what) {
    if (!in(coin, 0, 999) || !in(what, 0, 2)) return BAD;
    int[] best = null;
    for (int set = (1 << now.covers.size()) - 1; set >= 0; set--) {
      int cost = 0;
      for (int c = 0; c < now.covers.size(); c++) if ((set & 1 << c) != 0) cost += now.covers.get(c)[3];
      if (cost > coin) continue;
      int[] t = {set, now.covered(set).seesAll(1), cost};
      if (best == null || t[1] < best[1] || t[1] == best[1] && t[2] <= best[2]) best = t;
    }
    return best[what];
  }

  int stances() {
    int set = 15;
    for (int column = 0; column < 4; column++) {
      for (Beat b : now.beats) {
        for (Watcher w : now.watchers) {
          if (b.slip != null && now.can(w.seat, b.slip.place, column)) set &= ~(1 << column);
        }
      }
    }
    return set;
  }

  int often(int most) {
    if (!in(most, 0, 99999)) return BAD;
    int greatest = 0;
    for (int k = 1; k <= 9; k++) if (now.seesAll(k) <= most) greatest = k;
    return greatest;
  }

  int warning() {
    World t = now.twin();
    for (int w = 0; w < t.watchers.size(); w++) {
      if (t.watchers.get(w).kind() == 0) t.watchers.set(w, new Warned(t.watchers.get(w).seat));
    }
    return t.seesAll(1) - now.seesAll(1);
  }

  int shown(int beat) {
    if (!in(beat, -1, 15)) return BAD;
    if (beat >= 0) return now.shown(beat);
    int best = NONE;
    for (int b = 15; b > 0; b--) {
      if (now.beats[b].slip != null) return best;
      if (best == NONE || now.shown(b) <= now.shown(best)) best = b;
    }
    return now.beats[0].slip != null ? best : NONE;
  }

  int point(int beat, int place) {
    if (!in(beat, 0, 15) || !in(place, 0, 3)) return BAD;
    if (now.points.size() == 24) return FULL;
    now.points.add(new int[] {beat, place});
    return now.points.size();
  }

  int fits(int what) {
    if (!in(what, 0, 1)) return BAD;
    if (now.points.isEmpty()) return NOT;
    int look = 9;
    for (int l = 8; l >= 0; l--) if (now.fitting(l) >= now.fitting(look)) look = l;
    return what == 0 ? look : now.fitting(look);
  }

  int apart(int a, int b, int c, int d) {
    if (!in(a, 0, 999) || !in(b, 0, 999) || !in(c, 0, 999) || !in(d, 0, 999)) return BAD - 100000;
    return (a == 0 ? 0 : a * 1000 / (a + b)) - (c == 0 ? 0 : c * 1000 / (c + d));
  }

  int clear() {
    int many = now.covers.size() + now.points.size();
    now.covers = new ArrayList<>();
    now.points = new ArrayList<>();
    return many;
  }

  int image() {
    image = now.twin();
    return 1;
  }

  int restore() {
    if (image == null) return NONE;
    now = image.twin();
    return 1;
  }

  int eyes(int beat, int sheet, int lane, int i, int n) {
    if (!in(beat, 0, 15) || !in(sheet, 0, 3) || !in(lane, 0, 2) || !in(n, 1, 16) || beat + n - 1 > 15) return BAD;
    if (rows[sheet] == null) return NULL;
    if (lanes[sheet] != lane) return CAST;
    if (i < 0 || (long) i + n > rows[sheet].length) return INDEX;
    List<int[]> come = new ArrayList<>();
    for (int t = 0; t < n; t++) {
      long v = rows[sheet][i + t];
      if (v < -1 || v > 3) return NOT;
      if (v != -1) come.add(new int[] {beat + t, (int) v});
    }
    if (now.points.size() + come.size() > 24) return FULL;
    now.points.addAll(come);
    return come.size();
  }

  int sheet(int sheet, int lane, int n) {
    if (!in(sheet, 0, 3) || !in(lane, 0, 2) || n > 16) return BAD;
    if (n < 0) return SIZE;
    lanes[sheet] = lane;
    rows[sheet] = new long[n];
    return n;
  }

  int drop(int sheet) {
    if (!in(sheet, 0, 3)) return BAD;
    if (rows[sheet] == null) return NULL;
    int n = rows[sheet].length;
    rows[sheet] = null;
    return n;
  }

  int item(int sheet, int lane, int i, int v) {
    if (!in(sheet, 0, 3) || !in(lane, 0, 2)) return BAD;
    if (rows[sheet] == null) return NULL;
    if (lanes[sheet] != lane) return CAST;
    if (!in(i, 0, rows[sheet].length - 1)) return INDEX;
    int unused = 32 - (8 << lane);
    rows[sheet][i] = v << unused >> unused;
    return 1;
  }

  int copy(int from, int i, int to, int j, int n) {
    if (!in(from, 0, 3) || !in(to, 0, 3)) return BAD;
    if (rows[from] == null || rows[to] == null) return NULL;
    if (lanes[from] != lanes[to]) return CAST;
    if (i < 0 || j < 0 || n < 0 || (long) i + n > rows[from].length || (long) j + n > rows[to].length) return INDEX;
    long[] taken = rows[from].clone();
    for (int t = 0; t < n; t++) rows[to][j + t] = taken[i + t];
    return n;
  }
}
