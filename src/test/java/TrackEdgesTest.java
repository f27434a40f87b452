/** STATIONS, GRIP, LIMITS and GEARS: each sentence of the document that names an edge, by a test of its own. */
public final class TrackEdgesTest extends Answers {
    public static void main(String[] args) {
        runAll(TrackEdgesTest.class);
    }

    // ---- promise 1: a new object

    @Says("Promise 1: No STATIONS.")
    static void newObjectHasNoStations() {
        LapBoard x = new LapBoard();
        due(0, () -> x.count(0));
        due(-3, () -> x.undo());
        due(-1, () -> x.limit(0, 0));
        due(-1, () -> x.base(0, 1));
        due(-1, () -> x.quickest(0, 0));
        due(-1, () -> x.best(0, 0));
        due(-1, () -> x.drive(0, 1));
        dueNoSuch(() -> x.delta(0));
        due(-1, () -> x.keep(0, 1, 0));
    }

    @Says("Promise 1: a new object is another one than those before it")
    static void newObjectsShareNothing() {
        LapBoard x = board(10, 20, 30);
        LapBoard y = new LapBoard();
        x.drive(0, 5);
        x.gear(1, 60, 20);
        x.set(0, 7);
        x.tyre(0, 7, 7);
        x.two(false);
        x.keep(0, 1, 0);
        due(0, () -> y.count(0));
        due(0, () -> y.count(2));
        due(8, () -> y.reach(1));
        due(0, () -> y.set(0, 0));
        due(0, () -> y.tyre(0, 0, 5));
        due(1, () -> y.two(true) ? 1 : 0);
        due(-11, () -> y.weight(0));
    }

    @Says("Terms: Without STATIONS a lap has TIME 0.")
    static void lapWithoutStationsTakesNoTime() {
        LapBoard x = new LapBoard();
        due(0, () -> x.lap());
        for (int lane = 0; lane < 3; lane++) {
            int on = lane;
            due(0, () -> x.along(on));
        }
        due(0, () -> x.on(0, 0));
        due(0, () -> x.on(3, 39));
        due(0, () -> x.worth(0, -20));
        due(0, () -> x.worth(1, 30));
        due(0, () -> x.worth(2, 1));
        due(0, () -> x.race(1));
    }

    @Says("Terms: Without STATIONS a lap has TIME 0 (after the last one has gone as well).")
    static void lapAfterTheLastStationWentTakesNoTime() {
        LapBoard x = board(0, 50, 10);
        due(2500, () -> x.lap());
        due(2500, () -> x.along(0));
        due(2500, () -> x.on(0, 0));
        x.undo();
        due(0, () -> x.lap());
        due(0, () -> x.along(0));
        due(0, () -> x.on(0, 0));
        due(0, () -> x.worth(2, 60));
    }

    // ---- promise 2: station

    @Says("Terms: STATIONS 0 .. 29 as they come; Promise 2: its number.")
    static void stationsAreNumberedAsTheyCome() {
        LapBoard x = new LapBoard();
        for (int i = 0; i < 30; i++) {
            int number = i;
            due(number, () -> x.station(number % 4 * 10 + number % 3, 1 + number, 60 - number));
            due(number + 1, () -> x.count(0));
        }
    }

    @Says("Promise 2: -2: there are 30.")
    static void aFullTrackTakesNoStation() {
        LapBoard x = alike(30, 0, 10, 10);
        due(-2, () -> x.station(0, 10, 10));
        due(-2, () -> x.station(32, 99, 60));
        due(-2, () -> x.station(10, 1, 1));
        due(30, () -> x.count(0));
        due(300, () -> x.count(1));
    }

    @Says("Promise 2: -2: there are 30 (with 29 there are not).")
    static void aTrackThatWasFullTakesOneAgain() {
        LapBoard x = alike(30, 0, 10, 10);
        due(-2, () -> x.station(0, 10, 10));
        due(29, () -> x.undo());
        due(29, () -> x.station(12, 10, 10));
        due(10, () -> x.limit(29, 2));
        due(-2, () -> x.station(0, 10, 10));
    }

    @Says("Terms: Answers of several refusals are the first one here: -1 .. (promise 2, of a full track).")
    static void notAsToldComesAheadOfFull() {
        LapBoard x = alike(30, 0, 10, 10);
        due(-1, () -> x.station(3, 10, 10));
        due(-1, () -> x.station(-1, 10, 10));
        due(-1, () -> x.station(40, 10, 10));
        due(-1, () -> x.station(0, 0, 10));
        due(-1, () -> x.station(0, 100, 10));
        due(-1, () -> x.station(0, 10, 0));
        due(-1, () -> x.station(0, 10, 61));
        due(-1, () -> x.station(MOST, MOST, MOST));
        due(-2, () -> x.station(0, 10, 10));
    }

    @Says("Terms: of KINDS: 0 STRAIGHT; 1 BEND ..; 2 CHICANE ..; 3 CREST ..")
    static void kindsAreNoughtToThree() {
        LapBoard x = new LapBoard();
        for (int line = 0; line < 3; line++) {
            int of = line;
            due(-1, () -> x.station(-10 + of, 10, 10));
            due(-1, () -> x.station(-10 - of, 10, 10));
            due(-1, () -> x.station(40 + of, 10, 10));
            due(-1, () -> x.station(50 + of, 10, 10));
            due(-1, () -> x.station(100 + of, 10, 10));
        }
        due(0, () -> x.station(0, 10, 10));
        due(1, () -> x.station(30, 10, 10));
    }

    @Says("Terms: a LINE 0 .. 2 (a LANE).")
    static void linesAreNoughtToTwo() {
        LapBoard x = new LapBoard();
        for (int kind = 0; kind < 4; kind++) {
            for (int line = 3; line < 10; line++) {
                int told = 10 * kind + line;
                due(-1, () -> x.station(told, 10, 10));
            }
        }
        due(-1, () -> x.station(-1, 10, 10));
        due(-1, () -> x.station(-2, 10, 10));
        due(0, () -> x.count(0));
        for (int kind = 0; kind < 4; kind++) {
            for (int line = 0; line < 3; line++) {
                int told = 10 * kind + line;
                due(3 * kind + line, () -> x.station(told, 10, 10));
            }
        }
    }

    @Says("Promise 2: KIND and LINE told as 10 * KIND + LINE (numbers far out; none wraps round to one that is good).")
    static void numbersFarOutTellNoStation() {
        LapBoard x = new LapBoard();
        int[] far = {LEAST, LEAST + 1, LEAST + 8, -2147483640, -256, 256, 266, 65536, 2147483640, 2147483641,
            2147483642, MOST - 1, MOST};
        for (int told : far) {
            due(-1, () -> x.station(told, 10, 10));
        }
        due(0, () -> x.count(0));
    }

    @Says("Terms: with a LENGTH 1 .. 99.")
    static void lengthIsOneToNinetyNine() {
        LapBoard x = new LapBoard();
        for (int length : new int[] {0, -1, -99, 100, 101, 257, LEAST, MOST}) {
            due(-1, () -> x.station(0, length, 10));
        }
        due(0, () -> x.station(0, 1, 10));
        due(1, () -> x.station(0, 99, 10));
        due(100, () -> x.count(1));
    }

    @Says("Terms: a BASE 1 .. 60.")
    static void baseOfANewStationIsOneToSixty() {
        LapBoard x = new LapBoard();
        for (int told : new int[] {0, 30}) {
            for (int base : new int[] {0, -1, -60, 61, 62, 257, LEAST, MOST}) {
                due(-1, () -> x.station(told, 10, base));
            }
        }
        due(0, () -> x.station(30, 10, 1));
        due(1, () -> x.station(30, 10, 60));
        due(1, () -> x.limit(0, 0));
        due(60, () -> x.limit(1, 0));
    }

    @Says("Terms: A refused call changes nothing (promise 2).")
    static void aRefusedStationDoesNotCome() {
        LapBoard x = board(0, 50, 10);
        due(2500, () -> x.lap());
        due(-1, () -> x.station(0, 100, 10));
        due(-1, () -> x.station(3, 10, 10));
        due(1, () -> x.count(0));
        due(50, () -> x.count(1));
        due(2500, () -> x.lap());
        due(1, () -> x.station(0, 50, 10));
    }

    // ---- promise 3: undo

    @Says("Promise 3: -3: there is none.")
    static void nothingCanBeUndoneWithoutStations() {
        LapBoard x = new LapBoard();
        due(-3, () -> x.undo());
        due(-3, () -> x.undo());
        due(0, () -> x.count(0));
        due(0, () -> x.station(0, 10, 10));
        due(0, () -> x.undo());
        due(-3, () -> x.undo());
        due(0, () -> x.station(0, 10, 10));
    }

    @Says("Promise 3: The last STATION goes: how many there are (from a full track to an empty one).")
    static void aFullTrackIsUndoneOneByOne() {
        LapBoard x = alike(30, 0, 10, 10);
        for (int left = 29; left >= 0; left--) {
            int how = left;
            due(how, () -> x.undo());
            due(how, () -> x.count(0));
            due(10 * how, () -> x.count(1));
            due(-1, () -> x.limit(how, 0));
        }
        due(-3, () -> x.undo());
    }

    @Says("Promise 3: The last STATION goes, and its TIME told.")
    static void aTimeToldGoesWithItsStation() {
        LapBoard x = board(30, 10, 10, 30, 10, 10);
        x.drive(0, 7);
        x.drive(1, 5000);
        due(1, () -> x.lost());
        due(1, () -> x.undo());
        due(1, () -> x.count(2));
        due(0, () -> x.lost());
        due(1, () -> x.station(30, 10, 10));
        due(1, () -> x.count(2));
        due(0, () -> x.delta(1));
        due(0, () -> x.drive(1, 9));
        due(7, () -> x.drive(0, 0));
    }

    // ---- promise 4: base

    @Says("Terms: a BASE 1 .. 60; Promise 4: -1 (out of range).")
    static void baseIsOneToSixty() {
        LapBoard x = board(30, 10, 30);
        for (int base : new int[] {0, -1, 61, 286, LEAST, MOST}) {
            due(-1, () -> x.base(0, base));
        }
        due(30, () -> x.limit(0, 0));
        due(30, () -> x.base(0, 1));
        due(1, () -> x.limit(0, 0));
        due(1, () -> x.base(0, 60));
        due(60, () -> x.limit(0, 0));
        due(60, () -> x.base(0, 60));
    }

    @Says("Promise 4: BASE of a STATION: -1 (no such).")
    static void baseOfNoStation() {
        LapBoard x = board(30, 10, 30, 30, 10, 40);
        for (int station : new int[] {-1, 2, 29, 30, 256, LEAST, MOST}) {
            due(-1, () -> x.base(station, 10));
        }
        due(30, () -> x.base(0, 30));
        due(40, () -> x.base(1, 40));
        due(1, () -> x.undo());
        due(-1, () -> x.base(1, 10));
        due(-1, () -> new LapBoard().base(0, 10));
        LapBoard full = alike(30, 30, 10, 10);
        due(10, () -> full.base(29, 11));
        due(-1, () -> full.base(30, 11));
    }

    @Says("Promise 4: the one before (of a STRAIGHT, on whose LIMIT it does not bear, as well).")
    static void baseOfAStraightIsKept() {
        LapBoard x = board(0, 10, 30);
        due(30, () -> x.base(0, 1));
        due(60, () -> x.limit(0, 0));
        due(1, () -> x.base(0, 2));
    }

    // ---- promise 5: gear

    @Says("Terms: at first GEAR g has TOP 10 g and PULL 8 - g.")
    static void gearsAtFirst() {
        for (int g = 1; g <= 6; g++) {
            int gear = g;
            due(0, () -> new LapBoard().gear(gear, 10 * gear, 8 - gear));
            due(1, () -> new LapBoard().gear(gear, 10 * gear, 9 - gear));
            due(1, () -> new LapBoard().gear(gear, 10 * gear - 1, 8 - gear));
        }
    }

    @Says("Terms: GEARS 1 .. 6; Promise 5: -1.")
    static void gearsAreOneToSix() {
        LapBoard x = new LapBoard();
        for (int gear : new int[] {0, -1, 7, 257, LEAST, MOST}) {
            due(-1, () -> x.gear(gear, 10, 10));
        }
        due(1, () -> x.gear(1, 9, 9));
        due(1, () -> x.gear(6, 59, 9));
    }

    @Says("Terms: each with a TOP (1 .. 60); Promise 5: -1.")
    static void topIsOneToSixty() {
        LapBoard x = new LapBoard();
        for (int top : new int[] {0, -1, 61, 266, LEAST, MOST}) {
            due(-1, () -> x.gear(1, top, 7));
        }
        due(0, () -> x.gear(1, 10, 7));
        due(1, () -> x.gear(1, 1, 7));
        due(1, () -> x.gear(1, 60, 7));
        due(0, () -> x.gear(1, 60, 7));
    }

    @Says("Terms: and a PULL (1 .. 20); Promise 5: -1.")
    static void pullIsOneToTwenty() {
        LapBoard x = new LapBoard();
        for (int pull : new int[] {0, -1, 21, 263, LEAST, MOST}) {
            due(-1, () -> x.gear(1, 10, pull));
        }
        due(0, () -> x.gear(1, 10, 7));
        due(1, () -> x.gear(1, 10, 1));
        due(1, () -> x.gear(1, 10, 20));
        due(0, () -> x.gear(1, 10, 20));
    }

    @Says("Promise 5: 1 if either is another than before, else 0.")
    static void eitherIsAnother() {
        LapBoard x = new LapBoard();
        due(1, () -> x.gear(3, 31, 5));
        due(1, () -> x.gear(3, 31, 6));
        due(1, () -> x.gear(3, 30, 7));
        due(0, () -> x.gear(3, 30, 7));
        due(1, () -> x.gear(3, 7, 20));
        due(1, () -> x.gear(3, 20, 7));
        // what another GEAR has is no matter
        due(1, () -> x.gear(1, 20, 7));
        due(0, () -> x.gear(2, 20, 6));
    }

    @Says("Terms: A refused call changes nothing (promise 5: neither TOP nor PULL).")
    static void aRefusedGearIsAsBefore() {
        LapBoard x = new LapBoard();
        due(-1, () -> x.gear(1, 60, 21));
        due(-1, () -> x.gear(1, 61, 20));
        due(-1, () -> x.gear(1, 0, 20));
        due(-1, () -> x.gear(1, 60, 0));
        due(0, () -> x.gear(1, 10, 7));
        due(8, () -> x.reach(1));
    }

    // ---- promise 6: set

    @Says("Terms: GRIP is -20 .. 20 (0 at first); Promise 6: -1000: out of range.")
    static void gripIsTwentyAtMostEitherWay() {
        LapBoard x = new LapBoard();
        dueRange(x, 0, 0, -20, 20);
    }

    @Says("Terms: BRAKE 1 .. 30 (6 at first); Promise 6: -1000: out of range.")
    static void brakeIsOneToThirty() {
        dueRange(new LapBoard(), 1, 6, 1, 30);
    }

    @Says("Terms: START 1 .. 60 (20 at first); Promise 6: -1000: out of range.")
    static void startIsOneToSixty() {
        dueRange(new LapBoard(), 2, 20, 1, 60);
    }

    @Says("Terms: STOP time 0 .. 100000; 20000 at first; Promise 6: -1000: out of range.")
    static void stopIsNoughtToAHundredThousand() {
        dueRange(new LapBoard(), 3, 20000, 0, 100000);
    }

    private static void dueRange(LapBoard x, int what, int first, int least, int most) {
        for (int n : new int[] {least - 1, least - 2, most + 1, most + 2, most + 65536, LEAST, MOST}) {
            due(-1000, () -> x.set(what, n));
        }
        due(first, () -> x.set(what, least));
        due(-1000, () -> x.set(what, least - 1));
        due(least, () -> x.set(what, most));
        due(-1000, () -> x.set(what, most + 1));
        due(most, () -> x.set(what, most));
        due(most, () -> x.set(what, first));
    }

    @Says("Promise 6: What = 0 GRIP, 1 BRAKE, 2 START, 3 STOP: -1000: no such.")
    static void setOfNoSuchNumber() {
        LapBoard x = new LapBoard();
        for (int what : new int[] {-1, 4, 5, 256, LEAST, MOST}) {
            due(-1000, () -> x.set(what, 1));
        }
        due(0, () -> x.set(0, 0));
        due(6, () -> x.set(1, 6));
        due(20, () -> x.set(2, 20));
        due(20000, () -> x.set(3, 20000));
    }

    @Says("Promise 6: the number before (a GRIP of -1 is no refusal).")
    static void aGripBelowNoughtIsTold() {
        LapBoard x = new LapBoard();
        due(0, () -> x.set(0, -1));
        due(-1, () -> x.set(0, -2));
        due(-2, () -> x.set(0, -3));
        due(-3, () -> x.set(0, 0));
    }

    // ---- promise 7: limit

    @Says("Terms: LIMIT: STRAIGHT: 60 (whatever BASE, LINE, LANE and GRIP).")
    static void limitOfAStraight() {
        LapBoard x = board(0, 10, 1, 2, 10, 60);
        for (int grip : new int[] {0, -20, 20}) {
            x.set(0, grip);
            dueLimits(x, 0, 60, 60, 60);
            dueLimits(x, 1, 60, 60, 60);
        }
    }

    @Says("Terms: BEND: BASE and GRIP, less 3 for each LANE between it and LINE (how far they are apart).")
    static void limitOfABendByItsLine() {
        LapBoard x = board(10, 10, 30, 11, 10, 30, 12, 10, 30);
        dueLimits(x, 0, 30, 27, 24);
        dueLimits(x, 1, 27, 30, 27);
        dueLimits(x, 2, 24, 27, 30);
        x.set(0, 20);
        dueLimits(x, 0, 50, 47, 44);
        x.set(0, -20);
        dueLimits(x, 0, 10, 7, 4);
        dueLimits(x, 2, 4, 7, 10);
    }

    @Says("Terms: CHICANE: that of a BEND (not held to 1 and 60 yet) less 4.")
    static void limitOfAChicaneNotHeldYet() {
        LapBoard x = board(20, 10, 60, 21, 10, 60);
        dueLimits(x, 0, 56, 53, 50);
        dueLimits(x, 1, 53, 56, 53);
        x.set(0, 3);
        dueLimits(x, 0, 59, 56, 53);
        x.set(0, 4);
        dueLimits(x, 0, 60, 57, 54);
        x.set(0, 5);
        dueLimits(x, 0, 60, 58, 55);
        x.set(0, 20);
        dueLimits(x, 0, 60, 60, 60);
        dueLimits(x, 1, 60, 60, 60);
    }

    @Says("Terms: CREST: BASE, whatever GRIP and LANE.")
    static void limitOfACrest() {
        LapBoard x = board(30, 10, 1, 31, 10, 30, 32, 10, 60);
        for (int grip : new int[] {0, -20, 20}) {
            x.set(0, grip);
            dueLimits(x, 0, 1, 1, 1);
            dueLimits(x, 1, 30, 30, 30);
            dueLimits(x, 2, 60, 60, 60);
        }
    }

    @Says("Terms: In all: 1 at least.")
    static void limitIsOneAtLeast() {
        LapBoard x = board(10, 10, 7, 10, 10, 6, 10, 10, 1, 20, 10, 6, 20, 10, 5, 20, 10, 4, 22, 10, 1);
        dueLimits(x, 0, 7, 4, 1);
        dueLimits(x, 1, 6, 3, 1);
        dueLimits(x, 2, 1, 1, 1);
        dueLimits(x, 3, 2, 1, 1);
        dueLimits(x, 4, 1, 1, 1);
        dueLimits(x, 5, 1, 1, 1);
        x.set(0, -20);
        for (int i = 0; i < 7; i++) {
            dueLimits(x, i, 1, 1, 1);
        }
        x.base(0, 21);
        dueLimits(x, 0, 1, 1, 1);
        x.base(0, 22);
        dueLimits(x, 0, 2, 1, 1);
        x.base(3, 26);
        dueLimits(x, 3, 2, 1, 1);
    }

    @Says("Terms: 60 at most.")
    static void limitIsSixtyAtMost() {
        LapBoard x = board(10, 10, 60, 20, 10, 60);
        dueLimits(x, 0, 60, 57, 54);
        x.set(0, 1);
        dueLimits(x, 0, 60, 58, 55);
        x.set(0, 5);
        dueLimits(x, 0, 60, 60, 59);
        x.set(0, 6);
        dueLimits(x, 0, 60, 60, 60);
        x.set(0, 7);
        dueLimits(x, 0, 60, 60, 60);
        x.set(0, 20);
        dueLimits(x, 0, 60, 60, 60);
        dueLimits(x, 1, 60, 60, 60);
        x.base(0, 40);
        dueLimits(x, 0, 60, 57, 54);
        x.base(0, 39);
        dueLimits(x, 0, 59, 56, 53);
    }

    @Says("Terms: LANES are 0, 1, 2; Promise 7: -1.")
    static void limitOnNoLane() {
        LapBoard x = board(0, 10, 10);
        for (int lane : new int[] {-1, 3, 4, 256, LEAST, MOST}) {
            due(-1, () -> x.limit(0, lane));
        }
        due(60, () -> x.limit(0, 0));
        due(60, () -> x.limit(0, 2));
    }

    @Says("Promise 7: LIMIT. -1 (of no STATION).")
    static void limitOfNoStation() {
        LapBoard x = board(0, 10, 10, 0, 10, 10);
        for (int station : new int[] {-1, 2, 29, 30, 256, LEAST, MOST}) {
            due(-1, () -> x.limit(station, 0));
        }
        due(60, () -> x.limit(1, 0));
        x.undo();
        due(-1, () -> x.limit(1, 0));
        LapBoard full = alike(30, 0, 10, 10);
        due(60, () -> full.limit(29, 2));
        due(-1, () -> full.limit(30, 2));
    }

    // ---- promises 8 and 9: reach, shift

    @Says("Promise 8: REACH of a pace (1 .. 60). -1.")
    static void reachOfNoPace() {
        LapBoard x = new LapBoard();
        for (int pace : new int[] {0, -1, 61, 257, LEAST, MOST}) {
            due(-1, () -> x.reach(pace));
        }
        due(8, () -> x.reach(1));
        due(60, () -> x.reach(60));
    }

    /** All GEARS alike. */
    private static LapBoard geared(int top, int pull) {
        LapBoard x = new LapBoard();
        for (int g = 1; g <= 6; g++) {
            x.gear(g, top, pull);
        }
        return x;
    }

    @Says("Terms: REACH of a pace p: of each GEAR whose TOP is above p (not of one whose TOP is p).")
    static void aGearReachesBelowItsTop() {
        LapBoard x = geared(10, 20);
        due(10, () -> x.reach(8));
        due(10, () -> x.reach(9));
        due(10, () -> x.reach(10));
        due(11, () -> x.reach(11));
        LapBoard y = new LapBoard();
        due(11, () -> y.reach(5));
        due(15, () -> y.reach(9));
        due(16, () -> y.reach(10));
        due(24, () -> y.reach(19));
        due(25, () -> y.reach(20));
    }

    @Says("Terms: REACH: p and its PULL, its TOP at most.")
    static void aGearReachesItsTopAtMost() {
        LapBoard x = geared(31, 20);
        due(30, () -> x.reach(10));
        due(31, () -> x.reach(11));
        due(31, () -> x.reach(12));
        due(31, () -> x.reach(30));
        due(31, () -> x.reach(31));
        due(32, () -> x.reach(32));
    }

    @Says("Terms: REACH: the greatest of: p ..")
    static void reachIsThePaceItselfWhereNoGearIsAbove() {
        LapBoard x = geared(1, 20);
        for (int p : new int[] {1, 2, 30, 59, 60}) {
            due(p, () -> x.reach(p));
            due(0, () -> x.shift(p));
        }
        LapBoard y = geared(60, 1);
        due(59, () -> y.reach(58));
        due(60, () -> y.reach(59));
        due(60, () -> y.reach(60));
    }

    @Says("Terms: REACH: the greatest of .. each GEAR (from the greatest pace: none).")
    static void reachOfTheGreatestPaces() {
        LapBoard x = geared(60, 20);
        due(21, () -> x.reach(1));
        due(59, () -> x.reach(39));
        due(60, () -> x.reach(40));
        due(60, () -> x.reach(41));
        due(60, () -> x.reach(59));
        due(60, () -> x.reach(60));
    }

    @Says("Promise 9: -1.")
    static void shiftOfNoPace() {
        LapBoard x = new LapBoard();
        for (int pace : new int[] {0, -1, 61, 257, LEAST, MOST}) {
            due(-1, () -> x.shift(pace));
        }
        due(1, () -> x.shift(1));
        due(0, () -> x.shift(60));
    }

    @Says("Promise 9: The least GEAR (by number) by which REACH is come to.")
    static void shiftOfSeveralGears() {
        LapBoard x = geared(50, 10);
        due(1, () -> x.shift(1));
        due(1, () -> x.shift(49));
        x.gear(1, 50, 9);
        due(2, () -> x.shift(1));
        // at their TOP the PULLS are no matter
        due(1, () -> x.shift(41));
        due(2, () -> x.shift(40));
        for (int g = 1; g <= 5; g++) {
            x.gear(g, 50, 9);
        }
        due(6, () -> x.shift(1));
        due(1, () -> x.shift(45));
        x.gear(6, 60, 1);
        due(1, () -> x.shift(48));
        due(6, () -> x.shift(50));
        // a GEAR of another TOP comes to the same REACH
        LapBoard y = new LapBoard();
        due(1, () -> y.shift(3));
        due(1, () -> y.shift(4));
        due(2, () -> y.shift(5));
    }

    @Says("Promise 9: 0: none is needed.")
    static void shiftWhereNoneIsNeeded() {
        LapBoard x = geared(50, 10);
        due(1, () -> x.shift(49));
        due(0, () -> x.shift(50));
        due(0, () -> x.shift(51));
        due(0, () -> x.shift(60));
        due(6, () -> new LapBoard().shift(59));
        due(0, () -> new LapBoard().shift(60));
    }
}
