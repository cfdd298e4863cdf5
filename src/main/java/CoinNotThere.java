/**
 * A coin that is not there: a routine by beats, a house of watchers, and who sees which slip by what odds.
 * Words in capitals are those of the document's "Terms".
 */
public final class CoinNotThere {
    public static final int BAD = -1, NOT = -2, FULL = -3, NONE = -4, NULL = -11, CAST = -12, INDEX = -13, SIZE = -14;

    /** What refused calls answer less, where the answer itself may be below 0. */
    private static final int FAR_BELOW = -100000;
    private static final int FIRST_FAULT = -20;

    private static final int BEATS = 16, PLACES = 4, SIZES = 10, COLUMNS = 4, SEATS = 12, WATCHERS = 8;
    private static final int RIGHT = 0, LEFT = 1;
    private static final int PLAIN = 0, WARNED = 1, CHILD = 2, CROSSED = 3, KINDS = 4, FIRST_DOUBT = 3;
    private static final char[] LETTER_OF_KIND = {'p', 'w', 'c', 'x'};
    private static final int LOOK = 0, NAME = 1, BACK = 2, LEARN = 3, FORGET = 4, LAWS = 5;
    private static final int[] GREATEST_LAW = {9, 9, 9, 9, 10};
    private static final int FULL_HEED = 9, SHOWINGS = 9;
    private static final int COVERS = 8, COVER_SIZE = 6, JOKE_COVER = 3, COSTS = 100, COINS = 1000;
    private static final int POINTS = 24, TRIES = 1000, GREATEST_SEES = 99999;
    private static final int TAPE = 100, CLAUSES = 8, END = -1, ABSENT = -1;
    private static final int SHEETS = 4, LANES = 3, ITEMS = 16, BLINK = -1;

    private final Stage now = new Stage();
    private final Stage kept = new Stage();
    private boolean hasImage;
    private final WouldBe wouldBe = new WouldBe();
    private final Tape tape = new Tape();
    private final Sheets sheets = new Sheets();

    /** An empty house, nothing told. */
    public CoinNotThere() {
    }

    // ---- 1 the routine, the house

    public int act(int beat, int what, int place, int size) {
        if (!isBelow(beat, BEATS) || !isBelow(what, 2) || !isBelow(place, PLACES) || !isBelow(size, SIZES)) {
            return BAD;
        }
        int deed = size == 0 ? 0 : 10 * place + size;
        return exchange(what == 0 ? now.routine.moves : now.routine.slips, beat, deed);
    }

    public int cue(int beat, int what, int v) {
        if (!isBelow(beat, BEATS) || !isBelow(what, 3)) {
            return BAD;
        }
        if (what == 2) {
            return isBelow(v, 2) ? 1 + exchange(now.routine.jokes, beat, v) : BAD;
        }
        if (v < -1 || v >= PLACES) {
            return BAD;
        }
        return exchange(what == 0 ? now.routine.looks : now.routine.names, beat, 1 + v);
    }

    public int stand(int column) {
        if (!isBelow(column, COLUMNS)) {
            return BAD;
        }
        int before = now.column;
        now.column = column;
        return before;
    }

    public int habit(int what, int v) {
        if (!isBelow(what, LAWS) || v < 0 || v > GREATEST_LAW[what]) {
            return BAD;
        }
        return exchange(now.laws, what, v);
    }

    public int watcher(int seat, int kind) {
        if (!isBelow(seat, SEATS) || !isBelow(kind, KINDS)) {
            return BAD;
        }
        if (now.house.isTaken(seat)) {
            return NOT;
        }
        if (now.house.size >= WATCHERS) {
            return FULL;
        }
        now.house.admit(seat, kind);
        return now.house.size - 1;
    }

    public int doubt(int watcher, int v) {
        if (!isBelow(watcher, now.house.size) || !isBelow(v, 10)) {
            return BAD;
        }
        if (now.house.kinds[watcher] != WARNED) {
            return CAST;
        }
        return exchange(now.house.doubts, watcher, v);
    }

    public int told(int watcher, int what) {
        if (!isBelow(watcher, now.house.size) || !isBelow(what, 3)) {
            return BAD;
        }
        if (what == 0) {
            return now.house.seats[watcher];
        }
        int kind = now.house.kinds[watcher];
        return what == 1 ? kind : now.routine.heedIn(BEATS - 1, kind == CHILD, now.laws[BACK]);
    }

    public int leave(int watcher) {
        if (!isBelow(watcher, now.house.size)) {
            return BAD;
        }
        now.house.dismiss(watcher);
        return now.house.size;
    }

    public int type(long w, int n) {
        if (n < 1 || n > 8 || !Tape.isWritable(w, n)) {
            return BAD;
        }
        if (tape.length + n > TAPE) {
            return FULL;
        }
        tape.write(w, n);
        return tape.length;
    }

    public int routine() {
        Routine read = wouldBe.trial.routine;
        read.become(now.routine);
        int answer = tape.readRoutine(read);
        tape.length = 0;
        if (answer > 0) {
            now.routine.become(read);
        }
        return answer;
    }

    public int house() {
        House read = wouldBe.trial.house;
        read.become(now.house);
        int answer = tape.readHouse(read);
        tape.length = 0;
        if (answer > 0 && read.size > WATCHERS) {
            return FULL;
        }
        if (answer > 0) {
            now.house.become(read);
        }
        return answer;
    }

    public int count(int what) {
        switch (what) {
            case 0: return now.house.size;
            case 1: return toldIn(now.routine.slips);
            case 2: return toldIn(now.routine.moves);
            case 3: return toldIn(now.routine.jokes);
            case 4: return now.covers.size;
            case 5: return now.points.size;
            default: return BAD;
        }
    }

    // ---- 2 eyes, heed, what is seen

    public int pull(int watcher, int beat, int place, int k) {
        if (!isBelow(watcher, now.house.size) || !isBelow(beat, BEATS) || !isBelow(place, PLACES) || !isShowing(k)) {
            return BAD;
        }
        now.drawPulls(now.house.kinds[watcher], now.house.doubts[watcher], beat, k);
        return now.pulls[place];
    }

    public int heed(int watcher, int beat) {
        if (!isBelow(watcher, now.house.size) || !isBelow(beat, BEATS)) {
            return BAD;
        }
        return now.routine.heedIn(beat, now.house.kinds[watcher] == CHILD, now.laws[BACK]);
    }

    public int can(int seat, int place) {
        if (!isBelow(seat, SEATS) || !isBelow(place, PLACES)) {
            return BAD;
        }
        return canSee(seat, place, now.column) ? 1 : 0;
    }

    public int odds(int watcher, int beat, int k, int part) {
        if (!isBelow(watcher, now.house.size) || !isBelow(beat, BEATS) || !isShowing(k) || !isBelow(part, 2)) {
            return BAD;
        }
        if (now.routine.slips[beat] == 0) {
            return NOT;
        }
        now.weigh(watcher, beat, k, now.routine.heedIn(beat, now.house.kinds[watcher] == CHILD, now.laws[BACK]));
        int divisor = commonDivisor(now.above, now.below);
        return (part == 0 ? now.above : now.below) / (divisor == 0 ? 1 : divisor);
    }

    public int sees(int beat, int k) {
        if (beat < -1 || beat >= BEATS || !isShowing(k)) {
            return BAD;
        }
        if (beat == -1) {
            return now.seesOfAll(k);
        }
        return now.routine.slips[beat] == 0 ? NOT : now.seesOfSlip(beat, k);
    }

    // ---- 3 what would be

    public int quiet(int beat, int what) {
        if (!isBelow(beat, BEATS) || !isBelow(what, 2)) {
            return BAD;
        }
        if (now.routine.slips[beat] == 0) {
            return NOT;
        }
        int quietest = wouldBe.quietestBeat(now, beat);
        return what == 0 ? quietest : wouldBe.seesMoved(now, beat, quietest);
    }

    public int cover(int beat, int kind, int place, int cost) {
        if (!isBelow(beat, BEATS) || !isBelow(kind, 4) || !isBelow(place, kind == JOKE_COVER ? 1 : PLACES)
                || !isBelow(cost, COSTS)) {
            return BAD;
        }
        if (now.covers.size >= COVERS) {
            return FULL;
        }
        now.covers.add(beat, kind, place, cost);
        return now.covers.size - 1;
    }

    public int does(int cover, int what) {
        if (!isBelow(cover, now.covers.size) || !isBelow(what, 2)) {
            return FAR_BELOW + BAD;
        }
        int one = 1 << cover;
        if (what == 0) {
            return now.seesOfAll(1) - wouldBe.seesCovered(now, one);
        }
        int all = (1 << now.covers.size) - 1;
        return wouldBe.seesCovered(now, all - one) - wouldBe.seesCovered(now, all);
    }

    public int bought(int coin, int what) {
        if (!isBelow(coin, COINS) || !isBelow(what, 3)) {
            return BAD;
        }
        int set = wouldBe.bestCovers(now, coin);
        if (what == 0) {
            return set;
        }
        return what == 1 ? wouldBe.seesCovered(now, set) : now.covers.costOf(set);
    }

    public int stances() {
        int set = 0;
        for (int column = 0; column < COLUMNS; column++) {
            if (!now.someoneCanSeeFrom(column)) {
                set |= 1 << column;
            }
        }
        return set;
    }

    public int often(int most) {
        if (most < 0 || most > GREATEST_SEES) {
            return BAD;
        }
        for (int k = SHOWINGS; k >= 1; k--) {
            if (now.seesOfAll(k) <= most) {
                return k;
            }
        }
        return 0;
    }

    public int warning() {
        return wouldBe.seesWarned(now) - now.seesOfAll(1);
    }

    public int shown(int beat) {
        if (beat < -1 || beat >= BEATS) {
            return BAD;
        }
        return beat == -1 ? now.bestShown() : now.leftAt(beat);
    }

    public int point(int beat, int place) {
        if (!isBelow(beat, BEATS) || !isBelow(place, PLACES)) {
            return BAD;
        }
        if (now.points.size >= POINTS) {
            return FULL;
        }
        now.points.add(beat, place);
        return now.points.size;
    }

    public int fits(int what) {
        if (!isBelow(what, 2)) {
            return BAD;
        }
        if (now.points.size == 0) {
            return NOT;
        }
        int look = wouldBe.lookThatFits(now);
        return what == 0 ? look : wouldBe.fittingPoints(now, look);
    }

    public int apart(int lookedSaw, int lookedNot, int elseSaw, int elseNot) {
        if (!isBelow(lookedSaw, TRIES) || !isBelow(lookedNot, TRIES) || !isBelow(elseSaw, TRIES)
                || !isBelow(elseNot, TRIES)) {
            return FAR_BELOW + BAD;
        }
        return thousandths(lookedSaw, lookedSaw + lookedNot) - thousandths(elseSaw, elseSaw + elseNot);
    }

    public int clear() {
        int gone = now.covers.size + now.points.size;
        now.covers.size = 0;
        now.points.size = 0;
        return gone;
    }

    public int image() {
        kept.become(now);
        hasImage = true;
        return 1;
    }

    public int restore() {
        if (!hasImage) {
            return NONE;
        }
        now.become(kept);
        return 1;
    }

    // ---- 4 sheets 0 .. 3

    public int eyes(int beat, int sheet, int lane, int i, int n) {
        if (!isBelow(beat, BEATS) || !isBelow(sheet, SHEETS) || !isBelow(lane, LANES) || n < 1 || n > BEATS - beat) {
            return BAD;
        }
        int refusal = sheets.refusal(sheet, lane);
        if (refusal != 0) {
            return refusal;
        }
        if (!sheets.hasItems(sheet, i, n)) {
            return INDEX;
        }
        int coming = sheets.placesAmong(sheet, i, n);
        if (coming == ABSENT) {
            return NOT;
        }
        if (now.points.size + coming > POINTS) {
            return FULL;
        }
        for (int t = 0; t < n; t++) {
            int place = sheets.itemAt(sheet, i + t);
            if (place != BLINK) {
                now.points.add(beat + t, place);
            }
        }
        return coming;
    }

    public int sheet(int sheet, int lane, int n) {
        if (!isBelow(sheet, SHEETS) || !isBelow(lane, LANES) || n > ITEMS) {
            return BAD;
        }
        if (n < 0) {
            return SIZE;
        }
        sheets.lay(sheet, lane, n);
        return n;
    }

    public int drop(int sheet) {
        if (!isBelow(sheet, SHEETS)) {
            return BAD;
        }
        if (sheets.isMissing(sheet)) {
            return NULL;
        }
        sheets.lanes[sheet] = ABSENT;
        return sheets.sizes[sheet];
    }

    public int item(int sheet, int lane, int i, int v) {
        if (!isBelow(sheet, SHEETS) || !isBelow(lane, LANES)) {
            return BAD;
        }
        int refusal = sheets.refusal(sheet, lane);
        if (refusal != 0) {
            return refusal;
        }
        if (!sheets.hasItems(sheet, i, 1)) {
            return INDEX;
        }
        sheets.write(sheet, i, v);
        return 1;
    }

    public int copy(int from, int i, int to, int j, int n) {
        if (!isBelow(from, SHEETS) || !isBelow(to, SHEETS)) {
            return BAD;
        }
        if (sheets.isMissing(from) || sheets.isMissing(to)) {
            return NULL;
        }
        if (sheets.lanes[from] != sheets.lanes[to]) {
            return CAST;
        }
        if (!sheets.hasItems(from, i, n) || !sheets.hasItems(to, j, n)) {
            return INDEX;
        }
        sheets.transfer(from, i, to, j, n);
        return n;
    }

    // ---- what several of them need

    private static boolean isBelow(int v, int limit) {
        return v >= 0 && v < limit;
    }

    private static boolean isShowing(int k) {
        return k >= 1 && k <= SHOWINGS;
    }

    /** Puts v into a row and answers what was there. */
    private static int exchange(int[] row, int i, int v) {
        int before = row[i];
        row[i] = v;
        return before;
    }

    private static int toldIn(int[] row) {
        int told = 0;
        for (int i = 0; i < row.length; i++) {
            if (row[i] != 0) {
                told++;
            }
        }
        return told;
    }

    /** A part of a whole in thousandths, cut; of nothing 0. */
    private static int thousandths(int part, int whole) {
        return whole <= 0 ? 0 : 1000 * part / whole;
    }

    private static int commonDivisor(int a, int b) {
        // Euclid's steps on ints end long before 64: the bound only shows that they do
        for (int step = 0; step < 64 && b != 0; step++) {
            int rest = a % b;
            a = b;
            b = rest;
        }
        return a;
    }

    private static boolean canSee(int seat, int place, int column) {
        int aside = seat % COLUMNS - column;
        if (place == LEFT) {
            return aside > -2;
        }
        return place != RIGHT || aside < 2;
    }

    /** What is told of each BEAT. Rows hold 0 where nothing is told, so that a new row is an empty one. */
    private static final class Routine {
        /** 10 PLACE and SIZE. */
        final int[] moves = new int[BEATS];
        final int[] slips = new int[BEATS];
        /** 1 and PLACE. */
        final int[] looks = new int[BEATS];
        final int[] names = new int[BEATS];
        /** 1: one. */
        final int[] jokes = new int[BEATS];

        void become(Routine from) {
            System.arraycopy(from.moves, 0, moves, 0, BEATS);
            System.arraycopy(from.slips, 0, slips, 0, BEATS);
            System.arraycopy(from.looks, 0, looks, 0, BEATS);
            System.arraycopy(from.names, 0, names, 0, BEATS);
            System.arraycopy(from.jokes, 0, jokes, 0, BEATS);
        }

        /** HEED in a BEAT: only its KIND tells one WATCHER's from another's, and of KINDS only CHILD. */
        int heedIn(int beat, boolean isChild, int back) {
            int heed = FULL_HEED;
            for (int b = 0; b <= beat && b < BEATS; b++) {
                if (jokes[b] != 0) {
                    heed = 0;
                    continue;
                }
                heed = Math.min(FULL_HEED, heed + back);
                if (names[b] != 0 && !isChild) {
                    heed = Math.max(0, heed - 2);
                }
            }
            return heed;
        }

        int lastSlip() {
            for (int b = BEATS - 1; b >= 0; b--) {
                if (slips[b] != 0) {
                    return b;
                }
            }
            return ABSENT;
        }
    }

    /** WATCHERS as they came. Rows reach for all SEATS: a TEXT may tell more than have room, before it is refused. */
    private static final class House {
        final int[] seats = new int[SEATS];
        final int[] kinds = new int[SEATS];
        final int[] doubts = new int[SEATS];
        int size;

        void become(House from) {
            System.arraycopy(from.seats, 0, seats, 0, SEATS);
            System.arraycopy(from.kinds, 0, kinds, 0, SEATS);
            System.arraycopy(from.doubts, 0, doubts, 0, SEATS);
            size = from.size;
        }

        boolean isTaken(int seat) {
            for (int w = 0; w < size; w++) {
                if (seats[w] == seat) {
                    return true;
                }
            }
            return false;
        }

        void admit(int seat, int kind) {
            if (size < SEATS) {
                seats[size] = seat;
                kinds[size] = kind;
                doubts[size] = FIRST_DOUBT;
                size++;
            }
        }

        void dismiss(int watcher) {
            for (int w = watcher + 1; w < size; w++) {
                seats[w - 1] = seats[w];
                kinds[w - 1] = kinds[w];
                doubts[w - 1] = doubts[w];
            }
            size--;
        }

        void warnPlainOnes() {
            for (int w = 0; w < size; w++) {
                if (kinds[w] == PLAIN) {
                    kinds[w] = WARNED;
                    doubts[w] = FIRST_DOUBT;
                }
            }
        }
    }

    /** COVERS as they came. */
    private static final class Covers {
        final int[] beats = new int[COVERS];
        final int[] kinds = new int[COVERS];
        final int[] places = new int[COVERS];
        final int[] costs = new int[COVERS];
        int size;

        void become(Covers from) {
            System.arraycopy(from.beats, 0, beats, 0, COVERS);
            System.arraycopy(from.kinds, 0, kinds, 0, COVERS);
            System.arraycopy(from.places, 0, places, 0, COVERS);
            System.arraycopy(from.costs, 0, costs, 0, COVERS);
            size = from.size;
        }

        void add(int beat, int kind, int place, int cost) {
            if (size < COVERS) {
                beats[size] = beat;
                kinds[size] = kind;
                places[size] = place;
                costs[size] = cost;
                size++;
            }
        }

        int costOf(int set) {
            int cost = 0;
            for (int c = 0; c < size; c++) {
                if ((set >> c & 1) != 0) {
                    cost += costs[c];
                }
            }
            return cost;
        }

        /** Tells the COVERS of a set, one behind the other. */
        void layOn(Routine routine, int set) {
            for (int c = 0; c < size; c++) {
                if ((set >> c & 1) == 0) {
                    continue;
                }
                switch (kinds[c]) {
                    case 0: routine.moves[beats[c]] = 10 * places[c] + COVER_SIZE; break;
                    case 1: routine.looks[beats[c]] = 1 + places[c]; break;
                    case 2: routine.names[beats[c]] = 1 + places[c]; break;
                    default: routine.jokes[beats[c]] = 1; break;
                }
            }
        }
    }

    /** POINTS: where EYES were. */
    private static final class Points {
        final int[] beats = new int[POINTS];
        final int[] places = new int[POINTS];
        int size;

        void become(Points from) {
            System.arraycopy(from.beats, 0, beats, 0, POINTS);
            System.arraycopy(from.places, 0, places, 0, POINTS);
            size = from.size;
        }

        void add(int beat, int place) {
            if (size < POINTS) {
                beats[size] = beat;
                places[size] = place;
                size++;
            }
        }
    }

    /** All that an IMAGE keeps, and what is seen by it. */
    private static final class Stage {
        final Routine routine = new Routine();
        final House house = new House();
        final Covers covers = new Covers();
        final Points points = new Points();
        final int[] laws = {4, 3, 3, 2, 2};
        int column = 1;

        /** What drawPulls found last. */
        final int[] pulls = new int[PLACES];
        /** The ODDS that weigh found last, not yet in lowest terms. */
        int above;
        int below = 1;

        void become(Stage from) {
            routine.become(from.routine);
            house.become(from.house);
            covers.become(from.covers);
            points.become(from.points);
            System.arraycopy(from.laws, 0, laws, 0, LAWS);
            column = from.column;
        }

        /** PULLS of all PLACES in a BEAT, the k-th time, on one of a KIND (with a DOUBT, if he is WARNED). */
        void drawPulls(int kind, int doubt, int beat, int k) {
            for (int place = 0; place < PLACES; place++) {
                pulls[place] = 1;
            }
            int look = routine.looks[beat] - 1;
            if (look >= 0) {
                pulls[look] += laws[LOOK];
            }
            int name = routine.names[beat] - 1;
            if (name >= 0 && kind != CHILD) {
                pulls[name] += laws[NAME];
            }
            int move = routine.moves[beat];
            pulls[move / 10] += move % 10;
            if (kind == WARNED) {
                pulls[RIGHT] += look == RIGHT ? 0 : doubt;
                pulls[LEFT] += look == LEFT ? 0 : doubt;
            }
            if (kind == CROSSED) {
                int right = pulls[RIGHT];
                pulls[RIGHT] = pulls[LEFT];
                pulls[LEFT] = right;
            }
            int slip = routine.slips[beat];
            if (slip != 0) {
                pulls[slip / 10] += laws[LEARN] * (k - 1);
            }
        }

        /** ODDS that a WATCHER with a HEED sees the SLIP of a BEAT, the k-th time. */
        void weigh(int watcher, int beat, int k, int heed) {
            drawPulls(house.kinds[watcher], house.doubts[watcher], beat, k);
            int slip = routine.slips[beat];
            int seat = house.seats[watcher];
            int size = Math.max(1, slip % 10 - seat / COLUMNS);
            int there = pulls[slip / 10];
            int elsewhere = -there;
            for (int place = 0; place < PLACES; place++) {
                elsewhere += pulls[place];
            }
            below = 81 * (there + elsewhere);
            above = canSee(seat, slip / 10, column) ? heed * (there * size + elsewhere * Math.max(0, size - 6)) : 0;
        }

        int seesOfSlip(int beat, int k) {
            int heed = routine.heedIn(beat, false, laws[BACK]);
            int heedOfChild = routine.heedIn(beat, true, laws[BACK]);
            int sees = 0;
            for (int w = 0; w < house.size; w++) {
                weigh(w, beat, k, house.kinds[w] == CHILD ? heedOfChild : heed);
                sees += thousandths(above, below);
            }
            return sees;
        }

        int seesOfAll(int k) {
            int sees = 0;
            for (int b = 0; b < BEATS; b++) {
                if (routine.slips[b] != 0) {
                    sees += seesOfSlip(b, k);
                }
            }
            return sees;
        }

        boolean someoneCanSeeFrom(int column) {
            for (int b = 0; b < BEATS; b++) {
                for (int w = 0; w < house.size && routine.slips[b] != 0; w++) {
                    if (canSee(house.seats[w], routine.slips[b] / 10, column)) {
                        return true;
                    }
                }
            }
            return false;
        }

        /** SHOWN at a BEAT. */
        int leftAt(int beat) {
            int left = 0;
            for (int b = 0; b < beat && b < BEATS; b++) {
                int tenths = Math.max(0, 10 - laws[FORGET] * (beat - b));
                if (routine.slips[b] != 0 && tenths != 0) {
                    left += seesOfSlip(b, 1) * tenths / 10;
                }
            }
            return left;
        }

        /** BEST SHOWN, or NONE. */
        int bestShown() {
            int last = routine.lastSlip();
            if (last == ABSENT || last == BEATS - 1) {
                return NONE;
            }
            int best = last + 1;
            int least = leftAt(best);
            for (int b = last + 2; b < BEATS; b++) {
                int left = leftAt(b);
                if (left < least) {
                    least = left;
                    best = b;
                }
            }
            return best;
        }

        /** How many POINTS are where a PLAIN one is drawn most. */
        int pointsWhereDrawnMost() {
            int fitting = 0;
            for (int p = 0; p < points.size; p++) {
                drawPulls(PLAIN, 0, points.beats[p], 1);
                int greatest = 0;
                for (int place = 0; place < PLACES; place++) {
                    greatest = Math.max(greatest, pulls[place]);
                }
                if (pulls[points.places[p]] == greatest) {
                    fitting++;
                }
            }
            return fitting;
        }
    }

    /** What would be, if something were else: each question is tried on a copy. */
    private static final class WouldBe {
        final Stage trial = new Stage();

        /** SEES of the SLIP of a BEAT, if it were in another one (or the same). */
        int seesMoved(Stage now, int beat, int other) {
            trial.become(now);
            trial.routine.slips[beat] = 0;
            trial.routine.slips[other] = now.routine.slips[beat];
            return trial.seesOfSlip(other, 1);
        }

        int quietestBeat(Stage now, int beat) {
            int best = ABSENT;
            int least = 0;
            for (int b = 0; b < BEATS; b++) {
                if (b != beat && now.routine.slips[b] != 0) {
                    continue;
                }
                int sees = seesMoved(now, beat, b);
                if (best == ABSENT || sees < least) {
                    best = b;
                    least = sees;
                }
            }
            return best;
        }

        int seesCovered(Stage now, int set) {
            trial.become(now);
            now.covers.layOn(trial.routine, set);
            return trial.seesOfAll(1);
        }

        /** The set that is BOUGHT for a coin. */
        int bestCovers(Stage now, int coin) {
            int best = 0;
            int least = now.seesOfAll(1);
            int cheapest = 0;
            for (int set = 1; set < 1 << now.covers.size; set++) {
                int cost = now.covers.costOf(set);
                if (cost > coin) {
                    continue;
                }
                int sees = seesCovered(now, set);
                if (sees < least || sees == least && cost < cheapest) {
                    best = set;
                    least = sees;
                    cheapest = cost;
                }
            }
            return best;
        }

        int seesWarned(Stage now) {
            trial.become(now);
            trial.house.warnPlainOnes();
            return trial.seesOfAll(1);
        }

        int fittingPoints(Stage now, int look) {
            trial.become(now);
            trial.laws[LOOK] = look;
            return trial.pointsWhereDrawnMost();
        }

        int lookThatFits(Stage now) {
            int best = 0;
            int most = fittingPoints(now, 0);
            for (int look = 1; look <= GREATEST_LAW[LOOK]; look++) {
                int fitting = fittingPoints(now, look);
                if (fitting > most) {
                    most = fitting;
                    best = look;
                }
            }
            return best;
        }
    }

    /** THE TAPE. Once a byte can't stand where it is, its reader stays there and reads nothing more. */
    private static final class Tape {
        private final int[] bytes = new int[TAPE];
        int length;
        private int at;
        private boolean isStuck;

        static boolean isWritable(long w, int n) {
            for (int i = 0; i < n; i++) {
                int b = byteOf(w, i);
                if (b < 32 || b > 126) {
                    return false;
                }
            }
            return true;
        }

        private static int byteOf(long w, int i) {
            return (int) (w >> 8 * i & 255);
        }

        void write(long w, int n) {
            for (int i = n - 1; i >= 0 && length < TAPE; i--) {
                bytes[length] = byteOf(w, i);
                length++;
            }
        }

        /** How many CLAUSES a ROUTINE has, or a FAULT; what it tells is told to a routine as it is read. */
        int readRoutine(Routine into) {
            rewind();
            int clauses = 0;
            do {
                readClause(into);
                clauses++;
            } while (clauses < CLAUSES && accepts(';'));
            return answer(clauses);
        }

        /** How many come by a HOUSE, or a FAULT; they come into a house as they are read. */
        int readHouse(House into) {
            rewind();
            int come = 0;
            do {
                readWatcher(into);
                come++;
            } while (come < WATCHERS && accepts(';'));
            return answer(come);
        }

        private void rewind() {
            at = 0;
            isStuck = false;
        }

        private int answer(int many) {
            return !isStuck && next() == END ? many : FIRST_FAULT - at;
        }

        private void readClause(Routine into) {
            int beat = number(BEATS);
            if (!accepts(':')) {
                isStuck = true;
                return;
            }
            into.moves[beat] = accepts('m') ? placeAndSize() : 0;
            into.looks[beat] = accepts('l') ? 1 + digit(0, PLACES) : 0;
            into.names[beat] = accepts('n') ? 1 + digit(0, PLACES) : 0;
            into.jokes[beat] = accepts('j') ? 1 : 0;
            into.slips[beat] = accepts('x') ? placeAndSize() : 0;
        }

        private void readWatcher(House into) {
            next();
            int first = at;
            int seat = number(SEATS);
            if (!isStuck && into.isTaken(seat)) {
                at = first;
                isStuck = true;
            }
            for (int kind = 0; kind < KINDS; kind++) {
                if (accepts(LETTER_OF_KIND[kind])) {
                    into.admit(seat, kind);
                    return;
                }
            }
            isStuck = true;
        }

        private int placeAndSize() {
            int place = digit(0, PLACES);
            return 10 * place + digit(1, SIZES);
        }

        /** The next byte behind blanks, which is not taken, or END. */
        private int next() {
            while (at < length && bytes[at] == ' ') {
                at++;
            }
            return at < length ? bytes[at] : END;
        }

        /** Takes a sign, if it is the next one. */
        private boolean accepts(char sign) {
            if (isStuck || next() != sign) {
                return false;
            }
            at++;
            return true;
        }

        /** Takes a digit that is from least on and below a limit. */
        private int digit(int least, int limit) {
            int digit = next() - '0';
            if (isStuck || digit < least || digit >= limit) {
                isStuck = true;
                return 0;
            }
            at++;
            return digit;
        }

        /** Takes a number below a limit: all digits that stand side by side. */
        private int number(int limit) {
            next();
            int first = at;
            int number = digit(0, 10);
            while (!isStuck && at < length && bytes[at] >= '0' && bytes[at] <= '9') {
                // a longer number is no more wrong than one that reaches the limit
                number = Math.min(limit, 10 * number + bytes[at] - '0');
                at++;
            }
            if (number >= limit) {
                at = first;
                isStuck = true;
            }
            return isStuck ? 0 : number;
        }
    }

    /** SHEETS side by side in one row, so that none is ever made anew. */
    private static final class Sheets {
        /** ABSENT: the SHEET holds nothing. */
        final int[] lanes = {ABSENT, ABSENT, ABSENT, ABSENT};
        final int[] sizes = new int[SHEETS];
        private final int[] items = new int[SHEETS * ITEMS];

        boolean isMissing(int sheet) {
            return lanes[sheet] == ABSENT;
        }

        /** NULL, CAST, or 0 if a SHEET holds a row of a LANE. */
        int refusal(int sheet, int lane) {
            if (isMissing(sheet)) {
                return NULL;
            }
            return lanes[sheet] == lane ? 0 : CAST;
        }

        /** Whether there are n items from i on, without a sum that could grow too large. */
        boolean hasItems(int sheet, int i, int n) {
            return i >= 0 && n >= 0 && i <= sizes[sheet] && n <= sizes[sheet] - i;
        }

        void lay(int sheet, int lane, int n) {
            lanes[sheet] = lane;
            sizes[sheet] = n;
            for (int i = 0; i < n; i++) {
                items[sheet * ITEMS + i] = 0;
            }
        }

        int itemAt(int sheet, int i) {
            return items[sheet * ITEMS + i];
        }

        void write(int sheet, int i, int v) {
            int lane = lanes[sheet];
            items[sheet * ITEMS + i] = lane == 0 ? (byte) v : lane == 1 ? (short) v : v;
        }

        void transfer(int from, int i, int to, int j, int n) {
            System.arraycopy(items, from * ITEMS + i, items, to * ITEMS + j, n);
        }

        /** How many of n items are PLACES; ABSENT, if one is neither a PLACE nor a BLINK. */
        int placesAmong(int sheet, int i, int n) {
            int places = 0;
            for (int t = i; t < i + n; t++) {
                int item = itemAt(sheet, t);
                if (item != BLINK && !isBelow(item, PLACES)) {
                    return ABSENT;
                }
                if (item != BLINK) {
                    places++;
                }
            }
            return places;
        }
    }
}
