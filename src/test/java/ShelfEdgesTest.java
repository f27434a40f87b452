/** Counts and SHELVES: each sentence that names an edge, by a test of its own. */
public final class ShelfEdgesTest extends Answers {
    public static void main(String[] args) {
        runAll(ShelfEdgesTest.class);
    }

    /** Numbers that are no SHELF. */
    private static final int[] NO_SHELF = {-1, -2, 8, 9, 256, LEAST, MOST};

    /** SHELF 0: ints 11, 12, 13; 1: bytes 11, 12, 13; 2: a BEND; 3: ints, none; 4: bytes, none; the others nothing. */
    private static LapBoard shelves() {
        LapBoard x = board(30, 10, 11, 30, 10, 12, 30, 10, 13, 11, 20, 30);
        x.keep(2, 1, 3);
        x.undo();
        x.keep(0, 3, 0);
        x.keep(1, 4, 0);
        x.make(3, 3, 0);
        x.make(4, 4, 0);
        return x;
    }

    /** Each SHELF holds what shelves() put there. */
    private static void dueShelves(LapBoard x) {
        dueRow(x, 0, 11, 12, 13);
        dueRow(x, 1, 11, 12, 13);
        due(160, () -> x.weight(2));
        dueRow(x, 3);
        dueRow(x, 4);
        due(-11, () -> x.weight(5));
        due(-11, () -> x.weight(6));
        due(-11, () -> x.weight(7));
    }

    // ---- promise 27: count

    @Says("Promise 27: -1 for others.")
    static void countOfOthers() {
        LapBoard x = board(0, 10, 10);
        for (int what : new int[] {-1, -2, 4, 5, 256, LEAST, MOST}) {
            due(-1, () -> x.count(what));
            due(-1, () -> new LapBoard().count(what));
        }
    }

    @Says("Promise 27: 0 STATIONS, 1 LENGTHS together, 2 how many TIMES are told, 3 LANES changed (of no STATIONS).")
    static void countsOfAnEmptyTrack() {
        LapBoard x = new LapBoard();
        LapBoard y = board(10, 99, 20, 12, 99, 20);
        y.drive(0, 1);
        y.undo();
        y.undo();
        for (int what = 0; what < 4; what++) {
            int of = what;
            due(0, () -> x.count(of));
            due(0, () -> y.count(of));
        }
    }

    @Says("Promise 27: 0 STATIONS, 1 LENGTHS together, 2 how many TIMES are told (of a full track).")
    static void countsOfAFullTrack() {
        LapBoard x = alike(30, 0, 99, 10);
        due(30, () -> x.count(0));
        due(2970, () -> x.count(1));
        due(0, () -> x.count(2));
        for (int i = 0; i < 30; i++) {
            int station = i;
            due(0, () -> x.drive(station, 200000));
            due(station + 1, () -> x.count(2));
        }
        due(0, () -> x.count(3));
    }

    @Says("Promise 27: 3 LANES changed on THE BEST WAY (at each STATION but the first).")
    static void lanesChangedAtEachStation() {
        // LIMIT is 4 on the LINE, 1 beside it
        LapBoard x = new LapBoard();
        for (int i = 0; i < 30; i++) {
            x.station(i % 2 == 0 ? 10 : 11, 99, 4);
        }
        due(29, () -> x.count(3));
        due(24750 + 29 * 25250, () -> x.lap());
        LapBoard y = board(10, 99, 20);
        due(0, () -> y.count(3));
    }

    // ---- promise 28: keep

    @Says("Terms: SHELVES 0 .. 7; Promise 28: -1.")
    static void keepOnNoShelf() {
        LapBoard x = shelves();
        for (int d : NO_SHELF) {
            for (int what = 0; what < 5; what++) {
                int of = what;
                due(-1, () -> x.keep(d, of, 0));
            }
        }
        due(0, () -> x.keep(7, 3, 0));
        due(0, () -> x.keep(0, 0, 0));
    }

    @Says("Terms: SHELVES 0 .. 7 each hold nothing (at first).")
    static void shelvesAtFirst() {
        LapBoard x = board(10, 10, 10);
        for (int d = 0; d < 8; d++) {
            int shelf = d;
            due(-11, () -> x.weight(shelf));
            due(-11, () -> x.toss(shelf));
            due(-11, () -> x.copy(shelf, 0, shelf, 0, 0));
            dueNoPlace(() -> x.element(shelf, 0));
        }
    }

    @Says("Promise 28: what = 0 nothing; 1 STATION k; 3 a ROW of ints; 4 a ROW of bytes: -1 (of others, 2 among them).")
    static void keepOfNoSuch() {
        LapBoard x = shelves();
        for (int what : new int[] {-1, -2, 2, 5, 6, 256, LEAST, MOST}) {
            due(-1, () -> x.keep(0, what, 0));
            due(-1, () -> x.keep(2, what, 0));
            due(-1, () -> x.keep(7, what, 0));
        }
        dueShelves(x);
    }

    @Says("Promise 28: 1 STATION k. -1 (no such STATION).")
    static void keepOfNoStation() {
        LapBoard x = shelves();
        for (int k : new int[] {-1, 3, 29, 30, 256, LEAST, MOST}) {
            due(-1, () -> x.keep(0, 1, k));
            due(-1, () -> x.keep(2, 1, k));
            due(-1, () -> x.keep(7, 1, k));
        }
        dueShelves(x);
        due(0, () -> x.keep(7, 1, 2));
        due(-1, () -> new LapBoard().keep(0, 1, 0));
        LapBoard full = alike(30, 10, 10, 10);
        due(0, () -> full.keep(0, 1, 29));
        due(-1, () -> full.keep(0, 1, 30));
    }

    @Says("Promise 28: 4 a ROW of bytes: QUICKEST PACES on LANE k. -1 (no such LANE).")
    static void keepOfNoLane() {
        LapBoard x = shelves();
        for (int k : new int[] {-1, 3, 4, 256, LEAST, MOST}) {
            due(-1, () -> x.keep(0, 4, k));
            due(-1, () -> x.keep(1, 4, k));
            due(-1, () -> x.keep(7, 4, k));
            due(-1, () -> new LapBoard().keep(0, 4, k));
        }
        dueShelves(x);
        due(0, () -> x.keep(7, 4, 2));
    }

    @Says("Promise 28: (k matters with 1 and 4 alone).")
    static void whichMattersWithStationsAndLanesAlone() {
        LapBoard x = shelves();
        for (int k : new int[] {-1, 3, 30, LEAST, MOST}) {
            due(0, () -> x.keep(5, 3, k));
            dueRow(x, 5, 11, 12, 13);
            due(0, () -> x.keep(5, 0, k));
            due(-11, () -> x.weight(5));
        }
    }

    @Says("Promise 28: what = 0 nothing (of what held something, or nothing).")
    static void keepNothing() {
        LapBoard x = shelves();
        for (int d = 0; d < 8; d++) {
            int shelf = d;
            due(0, () -> x.keep(shelf, 0, 0));
            due(-11, () -> x.weight(shelf));
            due(-11, () -> x.toss(shelf));
            due(-11, () -> x.copy(shelf, 0, shelf, 0, 0));
            dueNoPlace(() -> x.element(shelf, 0));
        }
    }

    @Says("Promise 28: 1 STATION k (as it is then).")
    static void aStationIsHeldAsItWas() {
        LapBoard x = board(10, 20, 30);
        x.keep(0, 1, 0);
        due(160, () -> x.weight(0));
        x.base(0, 31);
        due(160, () -> x.weight(0));
        x.undo();
        due(160, () -> x.weight(0));
        x.station(32, 1, 1);
        due(160, () -> x.weight(0));
        due(0, () -> x.toss(0));
        x.keep(0, 1, 0);
        due(13, () -> x.weight(0));
    }

    @Says("Promise 28: a ROW of ints: paces of THE BEST WAY (they stay as they were then).")
    static void pacesAreHeldAsTheyWere() {
        LapBoard x = board(30, 10, 11, 0, 10, 10);
        x.keep(0, 3, 0);
        x.keep(1, 4, 0);
        x.set(2, 1);
        x.undo();
        x.set(0, -20);
        dueRow(x, 0, 11, 17);
        dueRow(x, 1, 11, 17);
    }

    @Says("Promise 28: paces of THE BEST WAY; QUICKEST PACES on LANE k (of no STATIONS: a ROW without a place).")
    static void rowsOfAnEmptyTrack() {
        LapBoard x = new LapBoard();
        due(0, () -> x.keep(0, 3, 0));
        due(0, () -> x.keep(1, 4, 0));
        due(-12, () -> x.weight(0));
        due(-12, () -> x.weight(1));
        dueRow(x, 0);
        dueRow(x, 1);
        due(0, () -> x.copy(0, 0, 0, 0, 0));
        due(-12, () -> x.copy(0, 0, 1, 0, 0));
    }

    @Says("Promise 28: paces of THE BEST WAY; QUICKEST PACES on LANE k (of a full track: 30 places).")
    static void rowsOfAFullTrack() {
        LapBoard x = alike(29, 30, 10, 7);
        x.station(30, 10, 9);
        due(0, () -> x.keep(0, 3, 0));
        due(0, () -> x.keep(1, 4, 2));
        for (int d = 0; d < 2; d++) {
            int shelf = d;
            due(7, () -> x.element(shelf, 0));
            due(7, () -> x.element(shelf, 28));
            due(9, () -> x.element(shelf, 29));
            dueNoPlace(() -> x.element(shelf, 30));
        }
    }

    @Says("Promise 28: SHELF d gets: (in place of what it held, a longer ROW among it).")
    static void whatIsKeptTakesThePlaceOfWhatWas() {
        LapBoard x = shelves();
        due(0, () -> x.make(0, 3, 60));
        due(0, () -> x.keep(0, 3, 0));
        dueRow(x, 0, 11, 12, 13);
        due(0, () -> x.keep(0, 4, 0));
        dueRow(x, 0, 11, 12, 13);
        due(3, () -> x.copy(0, 0, 1, 0, 3));
        due(0, () -> x.keep(0, 1, 0));
        due(20, () -> x.weight(0));
        dueNoPlace(() -> x.element(0, 0));
        due(0, () -> x.make(0, 4, 2));
        dueRow(x, 0, 0, 0);
        due(-12, () -> x.weight(0));
    }

    // ---- promise 29: make

    @Says("Promise 29: -1 (no such SHELF).")
    static void makeOnNoShelf() {
        LapBoard x = shelves();
        for (int d : NO_SHELF) {
            due(-1, () -> x.make(d, 3, 0));
            due(-1, () -> x.make(d, 4, 60));
        }
        dueShelves(x);
        due(0, () -> x.make(7, 3, 1));
    }

    @Says("Promise 29: (what 3, 4). -1 (of others).")
    static void makeOfNoSuch() {
        LapBoard x = shelves();
        for (int what : new int[] {-1, 0, 1, 2, 5, 259, LEAST, MOST}) {
            due(-1, () -> x.make(0, what, 5));
            due(-1, () -> x.make(7, what, 0));
        }
        dueShelves(x);
    }

    @Says("Promise 29: n up to 60. -1.")
    static void makeOfTooMany() {
        LapBoard x = shelves();
        for (int n : new int[] {61, 62, 256, MOST}) {
            due(-1, () -> x.make(0, 3, n));
            due(-1, () -> x.make(1, 4, n));
        }
        dueShelves(x);
        due(0, () -> x.make(0, 3, 60));
        due(0, () -> x.element(0, 59));
        dueNoPlace(() -> x.element(0, 60));
        due(0, () -> x.make(0, 4, 60));
        due(0, () -> x.element(0, 59));
        dueNoPlace(() -> x.element(0, 60));
    }

    @Says("Promise 29: -14: n is below 0.")
    static void makeOfFewerThanNone() {
        LapBoard x = shelves();
        for (int n : new int[] {-1, -2, -60, -256, LEAST}) {
            due(-14, () -> x.make(0, 3, n));
            due(-14, () -> x.make(1, 4, n));
            due(-14, () -> x.make(2, 3, n));
            due(-14, () -> x.make(7, 4, n));
        }
        dueShelves(x);
    }

    @Says("Promise 29: a ROW of n ints, or bytes (of none).")
    static void makeOfNone() {
        LapBoard x = shelves();
        due(0, () -> x.make(0, 3, 0));
        dueRow(x, 0);
        due(-12, () -> x.weight(0));
        due(0, () -> x.make(1, 4, 0));
        dueRow(x, 1);
        due(-12, () -> x.copy(0, 0, 1, 0, 0));
        due(0, () -> x.make(0, 4, 1));
        dueRow(x, 0, 0);
    }

    @Says("Promise 29: a ROW of n ints, or bytes, 0 (whatever was there before).")
    static void makeOfNoughts() {
        LapBoard x = shelves();
        due(0, () -> x.make(0, 3, 4));
        dueRow(x, 0, 0, 0, 0, 0);
        due(0, () -> x.make(1, 4, 4));
        dueRow(x, 1, 0, 0, 0, 0);
        x.keep(0, 4, 0);
        due(0, () -> x.make(0, 3, 3));
        dueRow(x, 0, 0, 0, 0);
    }

    @Says("Terms: Answers of several refusals are the first one here: -1 .. -14 (promise 29).")
    static void noSuchComesAheadOfFewerThanNone() {
        LapBoard x = shelves();
        for (int n : new int[] {-1, LEAST}) {
            due(-1, () -> x.make(-1, 3, n));
            due(-1, () -> x.make(8, 4, n));
            due(-1, () -> x.make(0, 2, n));
            due(-1, () -> x.make(0, 5, n));
            due(-1, () -> x.make(8, 5, n));
            due(-14, () -> x.make(0, 3, n));
        }
        dueShelves(x);
    }

    // ---- promise 30: element

    @Says("Promise 30: IllegalArgumentException: no such SHELF.")
    static void elementOnNoShelf() {
        LapBoard x = shelves();
        for (int d : NO_SHELF) {
            dueNoSuch(() -> x.element(d, 0));
            dueNoSuch(() -> x.element(d, -1));
            dueNoSuch(() -> x.element(d, 60));
        }
    }

    @Says("Promise 30: IllegalStateException: nothing is held.")
    static void elementOfNothing() {
        LapBoard x = shelves();
        for (int i : new int[] {-1, 0, 1, 60, LEAST, MOST}) {
            dueNoPlace(() -> x.element(5, i));
            dueNoPlace(() -> x.element(7, i));
        }
        x.keep(0, 0, 0);
        dueNoPlace(() -> x.element(0, 0));
    }

    @Says("Promise 30: IllegalStateException: it is no ROW.")
    static void elementOfAStation() {
        LapBoard x = shelves();
        for (int i : new int[] {-1, 0, 1, 60, LEAST, MOST}) {
            dueNoPlace(() -> x.element(2, i));
        }
        // where a ROW was held before
        x.keep(0, 1, 0);
        dueNoPlace(() -> x.element(0, 0));
    }

    @Says("Promise 30: IllegalStateException: .. or has no such place.")
    static void elementAtNoPlace() {
        LapBoard x = shelves();
        for (int d = 0; d < 2; d++) {
            int shelf = d;
            for (int i : new int[] {-1, -2, 3, 4, 59, 60, 256, LEAST, MOST}) {
                dueNoPlace(() -> x.element(shelf, i));
            }
            due(11, () -> x.element(shelf, 0));
            due(13, () -> x.element(shelf, 2));
        }
        dueNoPlace(() -> x.element(3, 0));
        dueNoPlace(() -> x.element(4, 0));
        dueNoPlace(() -> x.element(3, -1));
    }

    @Says("Promise 30: has no such place (of a ROW that was longer before).")
    static void elementBeyondAShorterRow() {
        LapBoard x = shelves();
        x.make(5, 3, 60);
        x.make(5, 3, 2);
        due(0, () -> x.element(5, 1));
        dueNoPlace(() -> x.element(5, 2));
        dueNoPlace(() -> x.element(5, 59));
        x.undo();
        x.keep(0, 3, 0);
        dueRow(x, 0, 11, 12);
    }

    // ---- promise 31: copy

    @Says("Promise 31: -1 (no such SHELF, of either).")
    static void copyOfNoShelf() {
        LapBoard x = shelves();
        for (int d : NO_SHELF) {
            due(-1, () -> x.copy(d, 0, 0, 0, 0));
            due(-1, () -> x.copy(0, 0, d, 0, 0));
            due(-1, () -> x.copy(d, 0, d, 0, 0));
        }
        dueShelves(x);
    }

    @Says("Promise 31: -11: of either.")
    static void copyOfNothing() {
        LapBoard x = shelves();
        due(-11, () -> x.copy(5, 0, 0, 0, 1));
        due(-11, () -> x.copy(0, 0, 5, 0, 1));
        due(-11, () -> x.copy(5, 0, 6, 0, 1));
        due(-11, () -> x.copy(5, 0, 5, 0, 0));
        dueShelves(x);
    }

    @Says("Promise 31: -12: one is no ROW.")
    static void copyOfAStation() {
        LapBoard x = shelves();
        due(-12, () -> x.copy(2, 0, 0, 0, 1));
        due(-12, () -> x.copy(0, 0, 2, 0, 1));
        due(-12, () -> x.copy(2, 0, 2, 0, 0));
        due(-12, () -> x.copy(2, 0, 1, 0, 0));
        due(-12, () -> x.copy(1, 0, 2, 0, 0));
        dueShelves(x);
    }

    @Says("Promise 31: -12: .. or they are not of one kind.")
    static void copyOfAnotherKind() {
        LapBoard x = shelves();
        due(-12, () -> x.copy(0, 0, 1, 0, 1));
        due(-12, () -> x.copy(1, 0, 0, 0, 1));
        due(-12, () -> x.copy(0, 0, 4, 0, 0));
        due(-12, () -> x.copy(4, 0, 3, 0, 0));
        dueShelves(x);
    }

    @Says("Promise 31: -13: n, i or j is below 0.")
    static void copyOfPlacesBelowNought() {
        LapBoard x = shelves();
        for (int below : new int[] {-1, -2, -3, -256, LEAST + 1, LEAST}) {
            due(-13, () -> x.copy(0, below, 0, 0, 1));
            due(-13, () -> x.copy(0, 0, 0, below, 1));
            due(-13, () -> x.copy(0, 0, 0, 0, below));
            due(-13, () -> x.copy(0, below, 0, below, below));
            due(-13, () -> x.copy(0, below, 0, 0, 0));
            due(-13, () -> x.copy(0, 0, 0, below, 0));
            due(-13, () -> x.copy(0, 3, 0, 3, below));
        }
        dueShelves(x);
    }

    @Says("Promise 31: -13: .. or beyond either's end.")
    static void copyBeyondEitherEnd() {
        LapBoard x = shelves();
        x.make(5, 3, 5);
        due(-13, () -> x.copy(0, 0, 5, 0, 4));
        due(-13, () -> x.copy(5, 0, 0, 0, 4));
        due(-13, () -> x.copy(0, 1, 5, 0, 3));
        due(-13, () -> x.copy(5, 0, 0, 1, 3));
        due(-13, () -> x.copy(0, 2, 5, 4, 2));
        due(-13, () -> x.copy(0, 3, 5, 0, 1));
        due(-13, () -> x.copy(5, 0, 0, 3, 1));
        due(-13, () -> x.copy(0, 0, 5, 5, 1));
        due(-13, () -> x.copy(3, 0, 5, 0, 1));
        due(-13, () -> x.copy(5, 0, 3, 0, 1));
        dueRow(x, 5, 0, 0, 0, 0, 0);
        x.keep(5, 0, 0);
        dueShelves(x);
    }

    @Says("Promise 31: beyond either's end (where the sum of place and n would wrap round).")
    static void copyBeyondTheEndOfAllNumbers() {
        LapBoard x = shelves();
        due(-13, () -> x.copy(0, MOST, 0, 0, MOST));
        due(-13, () -> x.copy(0, 0, 0, MOST, MOST));
        due(-13, () -> x.copy(0, 1, 0, 0, MOST));
        due(-13, () -> x.copy(0, 0, 0, 1, MOST));
        due(-13, () -> x.copy(0, MOST, 0, 0, 1));
        due(-13, () -> x.copy(0, 0, 0, MOST, 1));
        due(-13, () -> x.copy(0, MOST, 0, MOST, 3));
        due(-13, () -> x.copy(0, MOST - 1, 0, 0, 3));
        due(-13, () -> x.copy(0, MOST, 0, 0, 0));
        due(-13, () -> x.copy(0, 0, 0, MOST, 0));
        dueShelves(x);
    }

    @Says("Promise 31: (n 0 at the end is not).")
    static void copyOfNoneAtTheEnd() {
        LapBoard x = shelves();
        due(0, () -> x.copy(0, 3, 0, 3, 0));
        due(0, () -> x.copy(0, 3, 0, 0, 0));
        due(0, () -> x.copy(1, 0, 1, 3, 0));
        due(0, () -> x.copy(0, 0, 3, 0, 0));
        due(0, () -> x.copy(3, 0, 0, 3, 0));
        due(0, () -> x.copy(4, 0, 4, 0, 0));
        due(-13, () -> x.copy(0, 4, 0, 0, 0));
        due(-13, () -> x.copy(0, 0, 0, 4, 0));
        due(-13, () -> x.copy(3, 1, 0, 0, 0));
        due(-13, () -> x.copy(0, 0, 3, 1, 0));
        dueShelves(x);
    }

    @Says("Promise 31: (as they all were before) (onto the ROW itself, onward).")
    static void copyOntoItselfOnward() {
        LapBoard x = shelves();
        due(2, () -> x.copy(0, 0, 0, 1, 2));
        dueRow(x, 0, 11, 11, 12);
        due(2, () -> x.copy(1, 0, 1, 1, 2));
        dueRow(x, 1, 11, 11, 12);
    }

    @Says("Promise 31: (as they all were before) (onto the ROW itself, back).")
    static void copyOntoItselfBack() {
        LapBoard x = shelves();
        due(2, () -> x.copy(0, 1, 0, 0, 2));
        dueRow(x, 0, 12, 13, 13);
        due(2, () -> x.copy(1, 1, 1, 0, 2));
        dueRow(x, 1, 12, 13, 13);
        due(3, () -> x.copy(0, 0, 0, 0, 3));
        dueRow(x, 0, 12, 13, 13);
    }

    @Says("Promise 31: n elements .. from place i, come .. from place j: n (up to either's very end).")
    static void copyUpToTheVeryEnd() {
        LapBoard x = shelves();
        x.make(5, 3, 4);
        due(3, () -> x.copy(0, 0, 5, 1, 3));
        dueRow(x, 5, 0, 11, 12, 13);
        due(1, () -> x.copy(0, 2, 5, 0, 1));
        dueRow(x, 5, 13, 11, 12, 13);
        due(3, () -> x.copy(5, 0, 0, 0, 3));
        dueRow(x, 0, 13, 11, 12);
        x.make(6, 3, 60);
        x.make(7, 3, 60);
        due(1, () -> x.copy(0, 0, 6, 59, 1));
        due(60, () -> x.copy(6, 0, 7, 0, 60));
        due(13, () -> x.element(7, 59));
        due(0, () -> x.element(7, 58));
        due(-13, () -> x.copy(6, 0, 7, 0, 61));
    }

    @Says("Promise 31: come to the ROW on SHELF e (the one on SHELF d stays, and goes its own way).")
    static void aCopyIsAnotherRow() {
        LapBoard x = shelves();
        x.make(5, 3, 3);
        x.copy(0, 0, 5, 0, 3);
        x.copy(5, 0, 5, 1, 2);
        dueRow(x, 5, 11, 11, 12);
        dueRow(x, 0, 11, 12, 13);
    }

    @Says("Terms: Answers of several refusals are the first one here: -1, -11, -12, -13 (promise 31).")
    static void copyTellsTheFirstRefusal() {
        LapBoard x = shelves();
        due(-1, () -> x.copy(8, -1, 5, -1, -1));
        due(-1, () -> x.copy(5, -1, -1, -1, -1));
        due(-1, () -> x.copy(2, 0, 8, 0, 0));
        due(-11, () -> x.copy(5, -1, 2, -1, -1));
        due(-11, () -> x.copy(2, -1, 5, -1, -1));
        due(-12, () -> x.copy(0, -1, 1, -1, -1));
        due(-12, () -> x.copy(2, MOST, 0, MOST, MOST));
        due(-13, () -> x.copy(0, -1, 0, -1, -1));
        dueShelves(x);
    }

    // ---- promises 32 and 33: weight, toss

    @Says("Promise 32: -1.")
    static void weightOnNoShelf() {
        LapBoard x = shelves();
        for (int d : NO_SHELF) {
            due(-1, () -> x.weight(d));
        }
    }

    @Says("Promise 32: -11.")
    static void weightOfNothing() {
        LapBoard x = shelves();
        due(-11, () -> x.weight(5));
        due(-11, () -> x.weight(7));
        x.keep(2, 0, 0);
        due(-11, () -> x.weight(2));
    }

    @Says("Promise 32: -12.")
    static void weightOfARow() {
        LapBoard x = shelves();
        due(-12, () -> x.weight(0));
        due(-12, () -> x.weight(1));
        due(-12, () -> x.weight(3));
        due(-12, () -> x.weight(4));
        x.make(2, 3, 1);
        due(-12, () -> x.weight(2));
    }

    @Says("Promise 32: 10 and its LENGTH; of BENDS and those under them BASE and 100 more; of CHICANES twice all that; of CRESTS LINE more.")
    static void weightsAtTheirEnds() {
        int[][] toldAndWeight = {{0, 1, 1, 11}, {2, 99, 60, 109}, {10, 1, 1, 112}, {12, 99, 60, 269}, {20, 1, 1, 224},
            {22, 99, 60, 538}, {30, 1, 1, 11}, {31, 1, 60, 12}, {32, 99, 1, 111}};
        for (int[] a : toldAndWeight) {
            LapBoard x = board(a[0], a[1], a[2]);
            x.keep(7, 1, 0);
            due(a[3], () -> x.weight(7));
        }
    }

    @Says("Promise 33: -1.")
    static void tossOnNoShelf() {
        LapBoard x = shelves();
        for (int d : NO_SHELF) {
            due(-1, () -> x.toss(d));
        }
    }

    @Says("Promise 33: -11.")
    static void tossOfNothing() {
        LapBoard x = shelves();
        due(-11, () -> x.toss(5));
        due(-11, () -> x.toss(7));
        x.keep(2, 0, 0);
        due(-11, () -> x.toss(2));
    }

    @Says("Promise 33: -12.")
    static void tossOfARow() {
        LapBoard x = shelves();
        due(-12, () -> x.toss(0));
        due(-12, () -> x.toss(1));
        due(-12, () -> x.toss(3));
        due(-12, () -> x.toss(4));
    }

    @Says("Promise 33: -15: STRAIGHTS and CRESTS have none.")
    static void straightsAndCrestsHaveNoFailure() {
        for (int told : new int[] {0, 1, 2, 30, 31, 32}) {
            LapBoard x = board(told, 10, 10);
            x.keep(7, 1, 0);
            due(-15, () -> x.toss(7));
            due(-15, () -> x.toss(7));
        }
    }

    @Says("Promise 33: The FAILURE of the STATION on SHELF d is thrown, and caught: its LINE.")
    static void bendsAndChicanesTossTheirLine() {
        for (int told : new int[] {10, 11, 12, 20, 21, 22}) {
            LapBoard x = board(told, 10, 10);
            x.keep(7, 1, 0);
            due(told % 10, () -> x.toss(7));
            due(told % 10, () -> x.toss(7));
            due(told / 10 * 130, () -> x.weight(7));
        }
    }
}
