import java.util.ArrayList;
import java.util.List;

/**
 * All of an object that answers can tell, found by asking twins of it (each made by the same past), so that no question
 * has to be undone. No twin is asked more than some 300 calls.
 */
final class Digest {
  interface Past { void of(CoinNotThere x); }

  private final Past past;
  private final List<Integer> found = new ArrayList<>();

  private Digest(Past past) { this.past = past; }

  static List<Integer> of(Past past) {
    Digest d = new Digest(past);
    d.stage(false);
    d.stage(true);
    d.tape();
    for (int sheet = 0; sheet < 4; sheet++) d.sheet(sheet);
    return d.found;
  }

  private CoinNotThere twin() {
    CoinNotThere x = new CoinNotThere();
    past.of(x);
    return x;
  }

  private CoinNotThere twin(boolean asInImage) {
    CoinNotThere x = twin();
    if (asInImage) found.add(x.restore());
    return x;
  }

  private void stage(boolean asInImage) {
    routine(twin(asInImage));
    house(twin(asInImage));
    points(twin(asInImage));
    for (int place = 0; place < 4; place++) covers(twin(asInImage), place);
    costs(twin(asInImage));
  }

  private void routine(CoinNotThere x) {
    for (int beat = 0; beat < 16; beat++) {
      found.add(x.act(beat, 0, 0, 0));
      found.add(x.act(beat, 1, 0, 0));
      found.add(x.cue(beat, 0, -1));
      found.add(x.cue(beat, 1, -1));
      found.add(x.cue(beat, 2, 0));
    }
    found.add(x.stand(0));
    for (int law = 0; law < 5; law++) found.add(x.habit(law, 0));
  }

  private void house(CoinNotThere x) {
    int many = x.count(0);
    found.add(many);
    for (int w = 0; w < many; w++) {
      found.add(x.told(w, 0));
      found.add(x.told(w, 1));
      found.add(x.doubt(w, 0));
    }
  }

  /** Nothing told any more, THE TAPE empty. */
  private static void wipe(CoinNotThere x) {
    x.routine();
    Due.tell(x, "0:;1:;2:;3:;4:;5:;6:;7:");
    Due.tell(x, "8:;9:;10:;11:;12:;13:;14:;15:");
  }

  /** A MOVE that draws all eyes in its BEAT tells how many POINTS of that BEAT are elsewhere. */
  private void points(CoinNotThere x) {
    wipe(x);
    found.add(x.count(5));
    for (int beat = 0; beat < 16; beat++) {
      for (int place = 0; place < 4; place++) {
        x.act(beat, 0, place, 9);
        found.add(x.fits(1));
      }
      x.act(beat, 0, 0, 0);
    }
  }

  /** One watcher who sees all, and LAWS by which no kind of COVER does what another does. */
  private static void oneWhoSeesCovers(CoinNotThere x) {
    wipe(x);
    for (int w = x.count(0); w > 0; w--) x.leave(0);
    x.watcher(1, 0);
    x.stand(1);
    int[] laws = {9, 5, 9, 0, 0};
    for (int law = 0; law < 5; law++) x.habit(law, laws[law]);
  }

  private void covers(CoinNotThere x, int place) {
    int many = x.count(4);
    found.add(many);
    if (many == 0) return;
    oneWhoSeesCovers(x);
    for (int beat = 0; beat < 16; beat++) {
      x.act(beat, 1, place, 9);
      for (int c = 0; c < many; c++) found.add(x.does(c, 0));
      x.act(beat, 1, 0, 0);
    }
  }

  /** What is bought against a SLIP of each BEAT alone. */
  private void costs(CoinNotThere x) {
    if (x.count(4) == 0) return;
    oneWhoSeesCovers(x);
    for (int beat = 0; beat < 16; beat++) {
      for (int place = 0; place < 4; place += 3) {
        x.act(beat, 1, place, 9);
        for (int coin : new int[] {0, 30, 60, 98, 999}) found.add(x.bought(coin, 2));
      }
      x.act(beat, 1, 0, 0);
    }
  }

  private void tape() {
    found.add(twin().type(32, 1));
    CoinNotThere asRoutine = twin();
    found.add(asRoutine.routine());
    routine(asRoutine);
    CoinNotThere asHouse = twin();
    found.add(asHouse.house());
    house(asHouse);
  }

  private void sheet(int sheet) {
    CoinNotThere x = twin();
    int lane = -1;
    for (int l = 0; l < 3; l++) {
      int answer = x.item(sheet, l, -1, 0);
      found.add(answer);
      if (answer == CoinNotThere.INDEX) lane = l;
    }
    if (lane >= 0) {
      wipe(x);
      Due.tell(x, "0:m09;1:m19;2:m29;3:m39");
      for (int i = 0; i < 16; i++) found.add(item(x, sheet, lane, i));
    }
    found.add(x.drop(sheet));
  }

  /** An item as eyes take it, where BEATS 0 .. 3 draw to the PLACE of that number: a PLACE, -1 for a blink, or below it. */
  static int item(CoinNotThere x, int sheet, int lane, int i) {
    for (int place = 0; place < 4; place++) {
      x.clear();
      int came = x.eyes(place, sheet, lane, i, 1);
      if (came < 0) return came;
      if (came == 0) return -1;
      if (x.fits(1) == 1) return place;
    }
    return 99;
  }
}
