/** ENERGY and laps that were driven: each sentence that names an edge, by a test of its own. */
public final class EnergyEdgesTest extends Answers {
    public static void main(String[] args) {
        runAll(EnergyEdgesTest.class);
    }

    /** CRESTS of BASE 20, all at pace 20: TIME is 50 for each unit of LENGTH, a GAIN 5. */
    private static LapBoard even(int... lengths) {
        LapBoard x = new LapBoard();
        for (int length : lengths) {
            x.station(30, length, 20);
        }
        return x;
    }

    // ---- promises 16 and 17: spend, where

    @Says("Terms: ENERGY: 0 .. 60 units may be spent; Promise 16: -1.")
    static void spendIsOfNoughtToSixty() {
        LapBoard x = even(10, 20);
        LapBoard none = new LapBoard();
        for (int units : new int[] {-1, -2, 61, 62, 256, LEAST, MOST}) {
            due(-1, () -> x.spend(units));
            due(-1, () -> none.spend(units));
        }
        due(0, () -> x.spend(0));
        due(150, () -> x.spend(60));
    }

    @Says("Terms: ENERGY: 0 .. 60 units may be spent; Promise 17: -1.")
    static void whereIsOfNoughtToSixty() {
        LapBoard x = even(10, 20);
        LapBoard none = new LapBoard();
        for (int units : new int[] {-1, -2, 61, 62, 256, LEAST, MOST}) {
            due(-1, () -> x.where(units));
            due(-1, () -> none.where(units));
        }
        due(0, () -> x.where(0));
        due(3, () -> x.where(60));
    }

    @Says("Terms: THE SPENDING: the set of STATIONS (there are none: the set is empty).")
    static void spendingWithoutStations() {
        LapBoard x = new LapBoard();
        due(0, () -> x.spend(0));
        due(0, () -> x.spend(60));
        due(0, () -> x.where(0));
        due(0, () -> x.where(60));
        x.station(30, 10, 20);
        due(50, () -> x.spend(60));
        x.undo();
        due(0, () -> x.spend(60));
        due(0, () -> x.where(60));
    }

    @Says("Terms: for LENGTH / 10 and 1 (cut) units.")
    static void unitsOfAStation() {
        int[][] lengthsAndUnits = {{1, 1}, {9, 1}, {10, 2}, {11, 2}, {19, 2}, {20, 3}, {29, 3}, {30, 4}, {89, 9},
            {90, 10}, {99, 10}};
        for (int[] a : lengthsAndUnits) {
            LapBoard x = even(a[0]);
            due(0, () -> x.spend(a[1] - 1));
            due(0, () -> x.where(a[1] - 1));
            due(5 * a[0], () -> x.spend(a[1]));
            due(1, () -> x.where(a[1]));
            due(5 * a[0], () -> x.spend(60));
        }
    }

    @Says("Terms: its TIME is less by a tenth (the tenth is cut): a GAIN.")
    static void theTenthIsCut() {
        LapBoard x = board(30, 1, 52);
        x.set(2, 60);
        due(19, () -> x.best(0, 2));
        due(1, () -> x.spend(1));
        x.base(0, 50);
        due(20, () -> x.best(0, 2));
        due(2, () -> x.spend(1));
        x.base(0, 60);
        due(16, () -> x.best(0, 2));
        due(1, () -> x.spend(1));
        // cut at each STATION, not in all
        LapBoard y = board(30, 1, 52, 30, 1, 52);
        y.set(2, 60);
        due(2, () -> y.spend(60));
    }

    @Says("Terms: its TIME (on THE BEST WAY, with the 2 of a change in it) is less by a tenth.")
    static void theTimeIsThatOfTheBestWay() {
        LapBoard x = board(10, 99, 20, 12, 99, 20);
        due(5823, () -> x.best(0, 2));
        due(5050, () -> x.best(1, 2));
        due(582, () -> x.spend(10));
        due(582 + 505, () -> x.spend(20));
        due(582, () -> x.spend(19));
    }

    @Says("Terms: with the most GAINS together for which the units are enough (just enough, and one too few).")
    static void theUnitsAreEnough() {
        LapBoard x = even(99, 99, 99, 99, 99, 99, 99);
        due(6 * 495, () -> x.spend(60));
        due(63, () -> x.where(60));
        due(5 * 495, () -> x.spend(59));
        due(31, () -> x.where(59));
        due(495, () -> x.spend(10));
        due(1, () -> x.where(10));
        due(0, () -> x.spend(9));
        due(0, () -> x.where(9));
    }

    @Says("Terms: the most GAINS together (the greatest GAIN alone is less than two others).")
    static void twoLesserGainsBeforeTheGreatest() {
        // 49 takes 5 units for 245; 29 and 19 together 5 units for 240
        LapBoard x = even(49, 29, 19);
        due(245, () -> x.spend(5));
        due(1, () -> x.where(5));
        // 40 takes 5 units for 200
        LapBoard y = even(40, 29, 19);
        due(240, () -> y.spend(5));
        due(6, () -> y.where(5));
        due(240, () -> y.spend(6));
        due(6, () -> y.where(6));
        due(295, () -> y.spend(7));
        due(5, () -> y.where(7));
        due(345, () -> y.spend(8));
        due(3, () -> y.where(8));
    }

    @Says("Terms: of several the least set as a number (bits).")
    static void ofSeveralTheLeastSet() {
        LapBoard x = even(19, 19, 19, 19);
        due(1, () -> x.where(2));
        due(1, () -> x.where(3));
        due(3, () -> x.where(4));
        due(7, () -> x.where(7));
        due(15, () -> x.where(8));
        // 40 alone and 20 with 20 bring 200 both: the set is less without the last bit
        LapBoard y = even(20, 20, 40);
        due(200, () -> y.spend(6));
        due(3, () -> y.where(6));
        LapBoard z = even(40, 20, 20);
        due(200, () -> z.spend(6));
        due(1, () -> z.where(6));
    }

    @Says("Terms: the least set as a number (bits) (of a full track: bits 0 .. 29).")
    static void theSetOfAFullTrack() {
        LapBoard x = alike(30, 30, 1, 20);
        due((1 << 30) - 1, () -> x.where(30));
        due((1 << 30) - 1, () -> x.where(60));
        due((1 << 29) - 1, () -> x.where(29));
        due(1, () -> x.where(1));
        due(150, () -> x.spend(60));
        due(145, () -> x.spend(29));
        LapBoard y = alike(29, 30, 20, 20);
        y.station(30, 30, 20);
        due(1 << 29, () -> y.where(4));
        due(150, () -> y.spend(4));
    }

    @Says("Promises 16 and 17: THE SPENDING of some units (asked for more, then for fewer).")
    static void fewerUnitsAfterMore() {
        LapBoard x = even(39, 19, 49);
        due(7, () -> x.where(60));
        due(2, () -> x.where(3));
        due(95, () -> x.spend(2));
        due(0, () -> x.where(1));
        due(435 + 100, () -> x.spend(11));
        x.undo();
        due(3, () -> x.where(60));
        due(290, () -> x.spend(60));
    }

    @Says("Promise 16: spending is asked, not done: THE BEST WAY's TIME stays.")
    static void spendingChangesNothing() {
        LapBoard x = even(39, 19, 49);
        long lap = x.lap();
        x.spend(60);
        x.where(60);
        due(lap, () -> x.lap());
        due(1950, () -> x.best(0, 2));
        due(0, () -> x.delta(0));
    }

    // ---- promise 18: drive

    @Says("Terms: DRIVEN: a TIME (1 .. 200000); Promise 18: (0: none). -1.")
    static void timesToldAreTwoHundredThousandAtMost() {
        LapBoard x = even(20);
        for (int time : new int[] {-1, -2, 200001, 200002, 262144, LEAST, MOST}) {
            due(-1, () -> x.drive(0, time));
        }
        due(0, () -> x.count(2));
        due(0, () -> x.drive(0, 1));
        due(1, () -> x.count(2));
        due(1, () -> x.drive(0, 200000));
        due(1, () -> x.count(2));
        due(200000, () -> x.drive(0, 0));
        due(0, () -> x.drive(0, 0));
    }

    @Says("Promise 18: A TIME told at a STATION: -1 (at none).")
    static void timeToldAtNoStation() {
        LapBoard x = even(20, 20);
        for (int station : new int[] {-1, 2, 29, 30, 256, LEAST, MOST}) {
            due(-1, () -> x.drive(station, 5));
            due(-1, () -> x.drive(station, 0));
        }
        due(0, () -> x.drive(1, 5));
        due(-1, () -> new LapBoard().drive(0, 0));
        LapBoard full = alike(30, 30, 1, 1);
        due(0, () -> full.drive(29, 5));
        due(-1, () -> full.drive(30, 5));
    }

    @Says("Terms: all 0 at first, none told; Promise 18: (0: none): the one before.")
    static void noughtIsNoTime() {
        LapBoard x = even(20, 20);
        due(0, () -> x.drive(0, 0));
        due(0, () -> x.count(2));
        due(0, () -> x.drive(0, 900));
        due(1, () -> x.count(2));
        due(900, () -> x.drive(0, 0));
        due(0, () -> x.count(2));
        due(0, () -> x.delta(0));
        due(-2, () -> x.lost());
    }

    @Says("Terms: A refused call changes nothing (promise 18).")
    static void aRefusedTimeIsNotTold() {
        LapBoard x = even(20);
        x.drive(0, 900);
        due(-1, () -> x.drive(0, -1));
        due(-1, () -> x.drive(0, 200001));
        due(-1, () -> x.drive(1, 5));
        due(-100, () -> x.delta(0));
        due(900, () -> x.drive(0, 900));
    }

    // ---- promise 19: delta

    @Says("Promise 19: IllegalArgumentException: no such.")
    static void deltaAtNoStation() {
        LapBoard x = even(20, 20);
        for (int station : new int[] {-1, 2, 29, 30, 256, LEAST, MOST}) {
            dueNoSuch(() -> x.delta(station));
        }
        due(0, () -> x.delta(1));
        x.undo();
        dueNoSuch(() -> x.delta(1));
        dueNoSuch(() -> new LapBoard().delta(0));
        LapBoard full = alike(30, 30, 1, 1);
        due(0, () -> full.delta(29));
        dueNoSuch(() -> full.delta(30));
    }

    @Says("Terms: DELTA at a STATION: .. (0, if none is told).")
    static void deltaWhereNoneIsTold() {
        LapBoard x = even(20, 20);
        x.drive(0, 5000);
        due(0, () -> x.delta(1));
        due(4000, () -> x.delta(0));
        x.drive(0, 0);
        due(0, () -> x.delta(0));
    }

    @Says("Terms: DELTA: that less THE BEST WAY's TIME (just as long: 0; less: below 0).")
    static void deltaBelowNought() {
        LapBoard x = even(20);
        x.drive(0, 1001);
        due(1, () -> x.delta(0));
        x.drive(0, 1000);
        due(0, () -> x.delta(0));
        x.drive(0, 999);
        due(-1, () -> x.delta(0));
    }

    @Says("Terms: DELTA: that less THE BEST WAY's TIME (the greatest and the least there is).")
    static void deltaAtItsEnds() {
        LapBoard x = board(30, 1, 60);
        x.set(2, 60);
        x.drive(0, 200000);
        due(200000 - 16, () -> x.delta(0));
        LapBoard y = board(30, 99, 1);
        y.drive(0, 1);
        due(1 - 99000, () -> y.delta(0));
    }

    @Says("Terms: DELTA: less THE BEST WAY's TIME (as it is now).")
    static void deltaFollowsTheBestWay() {
        LapBoard x = even(20);
        x.drive(0, 1000);
        x.set(2, 10);
        due(-1000, () -> x.delta(0));
        x.base(0, 5);
        due(-3000, () -> x.delta(0));
    }

    // ---- promise 20: lost

    @Says("Promise 20: -2: none is told.")
    static void nothingIsLostWhereNoneIsTold() {
        due(-2, () -> new LapBoard().lost());
        LapBoard x = even(20, 20);
        due(-2, () -> x.lost());
        x.drive(1, 1);
        due(1, () -> x.lost());
        x.drive(1, 0);
        due(-2, () -> x.lost());
    }

    @Says("Promise 20: Of STATIONS with a TIME told (one without has DELTA 0, but is none of them).")
    static void oneThatIsNotToldIsNotLost() {
        LapBoard x = even(20, 20, 20);
        x.drive(1, 1);
        due(-999, () -> x.delta(1));
        due(0, () -> x.delta(0));
        due(1, () -> x.lost());
    }

    @Says("Promise 20: the one with the greatest DELTA (all below 0).")
    static void theGreatestDeltaBelowNought() {
        LapBoard x = even(20, 20, 20);
        x.drive(0, 800);
        x.drive(1, 900);
        x.drive(2, 899);
        due(1, () -> x.lost());
        x.drive(2, 901);
        due(2, () -> x.lost());
        // the greatest DELTA, not the greatest TIME
        LapBoard y = even(20, 40);
        y.drive(0, 1100);
        y.drive(1, 2050);
        due(0, () -> y.lost());
    }

    @Says("Promise 20: of several the least.")
    static void ofSeveralThatAreLostTheLeast() {
        LapBoard x = even(20, 20, 20, 20);
        x.drive(3, 1200);
        x.drive(2, 1200);
        due(2, () -> x.lost());
        x.drive(1, 1200);
        due(1, () -> x.lost());
        x.drive(0, 1199);
        due(1, () -> x.lost());
        x.drive(0, 1200);
        due(0, () -> x.lost());
        LapBoard y = even(20, 20);
        y.drive(0, 1000);
        y.drive(1, 1000);
        due(0, () -> y.lost());
    }

    @Says("Promise 20: Of STATIONS with a TIME told (the last of a full track).")
    static void theLastOfAFullTrackIsLost() {
        LapBoard x = alike(30, 30, 20, 20);
        for (int i = 0; i < 30; i++) {
            x.drive(i, 1000 + i);
        }
        due(29, () -> x.lost());
        due(30, () -> x.count(2));
        x.undo();
        due(28, () -> x.lost());
        due(29, () -> x.count(2));
    }
}
