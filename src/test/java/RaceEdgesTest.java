/** TYRES and RACES: each sentence that names an edge, by a test of its own. */
public final class RaceEdgesTest extends Answers {
    public static void main(String[] args) {
        runAll(RaceEdgesTest.class);
    }

    /** One BEND: a lap takes 60000 by 30 and the GRIP of the tyre. */
    private static LapBoard bend() {
        LapBoard x = board(10, 60, 30);
        x.set(2, 60);
        return x;
    }

    /** One STRAIGHT: a lap takes 1000 on any tyre. */
    private static LapBoard straight() {
        return board(0, 20, 1);
    }

    /** TYRE 0 wears each lap; TYRES 1 to 3 are slow: 2500, and do not wear in 20 laps. */
    private static LapBoard wearing() {
        LapBoard x = bend();
        x.tyre(0, 0, 1);
        for (int t = 1; t < 4; t++) {
            x.tyre(t, -6, 20);
        }
        return x;
    }

    // ---- promise 21: tyre

    @Says("Terms: TYRES 0 .. 3: each with a GRIP (0 at first) and LAPS (5 at first).")
    static void tyresAtFirst() {
        LapBoard x = bend();
        for (int t = 0; t < 4; t++) {
            int tyre = t;
            due(2000, () -> x.on(tyre, 0));
            due(2000, () -> x.on(tyre, 4));
            due(60000 / 29, () -> x.on(tyre, 5));
            due(0, () -> x.tyre(tyre, 0, 5));
            due(1, () -> new LapBoard().tyre(tyre, 0, 4));
            due(1, () -> new LapBoard().tyre(tyre, 1, 5));
        }
    }

    @Says("Terms: TYRES 0 .. 3; Promise 21: -1.")
    static void tyresAreNoughtToThree() {
        LapBoard x = new LapBoard();
        for (int tyre : new int[] {-1, 4, 5, 256, LEAST, MOST}) {
            due(-1, () -> x.tyre(tyre, 0, 5));
            due(-1, () -> x.tyre(tyre, 1, 6));
        }
        due(1, () -> x.tyre(0, 1, 5));
        due(1, () -> x.tyre(3, 1, 5));
    }

    @Says("Terms: each with a GRIP -20 .. 20; Promise 21: -1.")
    static void gripOfATyreIsTwentyAtMostEitherWay() {
        LapBoard x = new LapBoard();
        for (int grip : new int[] {-21, -22, 21, 22, 256, LEAST, MOST}) {
            due(-1, () -> x.tyre(0, grip, 5));
        }
        due(0, () -> x.tyre(0, 0, 5));
        due(1, () -> x.tyre(0, -20, 5));
        due(1, () -> x.tyre(0, 20, 5));
        due(0, () -> x.tyre(0, 20, 5));
    }

    @Says("Terms: and LAPS 1 .. 20; Promise 21: -1.")
    static void lapsOfATyreAreOneToTwenty() {
        LapBoard x = new LapBoard();
        for (int laps : new int[] {0, -1, 21, 22, 261, LEAST, MOST}) {
            due(-1, () -> x.tyre(0, 0, laps));
        }
        due(0, () -> x.tyre(0, 0, 5));
        due(1, () -> x.tyre(0, 0, 1));
        due(1, () -> x.tyre(0, 0, 20));
        due(0, () -> x.tyre(0, 0, 20));
    }

    @Says("Promise 21: 1 if either is another than before, else 0.")
    static void eitherIsAnother() {
        LapBoard x = new LapBoard();
        due(1, () -> x.tyre(2, 5, 5));
        due(0, () -> x.tyre(2, 5, 5));
        due(1, () -> x.tyre(2, 5, 6));
        due(1, () -> x.tyre(2, 6, 5));
        due(1, () -> x.tyre(2, 0, 5));
        due(0, () -> x.tyre(2, 0, 5));
        due(0, () -> x.tyre(1, 0, 5));
    }

    @Says("Terms: A refused call changes nothing (promise 21: neither GRIP nor LAPS).")
    static void aRefusedTyreIsAsBefore() {
        LapBoard x = bend();
        due(-1, () -> x.tyre(0, 20, 21));
        due(-1, () -> x.tyre(0, 21, 1));
        due(0, () -> x.tyre(0, 0, 5));
        due(2000, () -> x.on(0, 4));
    }

    // ---- promise 22: two

    @Says("Terms: TWO: .. (true at first); Promise 22: whether it was.")
    static void twoAtFirst() {
        due(1, () -> new LapBoard().two(false) ? 1 : 0);
        LapBoard x = new LapBoard();
        due(1, () -> x.two(true) ? 1 : 0);
        due(1, () -> x.two(false) ? 1 : 0);
        due(0, () -> x.two(false) ? 1 : 0);
        due(0, () -> x.two(true) ? 1 : 0);
        due(1, () -> x.two(true) ? 1 : 0);
    }

    @Says("Terms: TWO: .. not of races of one lap.")
    static void twoIsNotOfARaceOfOneLap() {
        LapBoard x = bend();
        due(2000, () -> x.race(1));
        due(0, () -> x.stops(1));
        duePlan(x, 1, new int[] {0, 0, 0});
        due(2000 + 20000 + 2000, () -> x.race(2));
        due(1, () -> x.stops(2));
        due(2000, () -> x.race(1));
        x.two(false);
        due(2000, () -> x.race(1));
        due(4000, () -> x.race(2));
        due(0, () -> x.stops(2));
    }

    @Says("Terms: at least two kinds (by number) (however alike they are).")
    static void kindsAreUnlikeByNumber() {
        LapBoard x = straight();
        x.set(3, 7);
        due(2007, () -> x.race(2));
        duePlan(x, 2, new int[] {0, 0, 0}, new int[] {1, 1, 0});
    }

    // ---- promise 23: on

    @Says("Terms: in its lap a (from 0) GRIP is that less a / LAPS (cut).")
    static void gripWearsByLaps() {
        LapBoard x = bend();
        x.tyre(0, 20, 3);
        int[] grips = {20, 20, 20, 19, 19, 19, 18};
        for (int i = 0; i < grips.length; i++) {
            int laps = i;
            due(60000 / (30 + grips[laps]), () -> x.on(0, laps));
        }
        due(60000 / (50 - 13), () -> x.on(0, 39));
    }

    @Says("Terms: LAPS 1 .. 20 for each of which that is 1 less (the least and the greatest LAPS).")
    static void gripWearsByTheLeastAndTheGreatestLaps() {
        LapBoard x = bend();
        x.tyre(0, 20, 1);
        due(60000 / 50, () -> x.on(0, 0));
        due(60000 / 49, () -> x.on(0, 1));
        due(60000 / 11, () -> x.on(0, 39));
        x.tyre(0, 20, 20);
        due(60000 / 50, () -> x.on(0, 19));
        due(60000 / 49, () -> x.on(0, 20));
        due(60000 / 49, () -> x.on(0, 39));
    }

    @Says("Terms: GRIP is that less a / LAPS, -20 at least.")
    static void gripOfAWornTyreIsMinusTwentyAtLeast() {
        LapBoard x = bend();
        x.tyre(0, -20, 1);
        x.tyre(1, -19, 1);
        x.tyre(2, 19, 1);
        x.tyre(3, 18, 1);
        for (int laps : new int[] {0, 1, 2, 39}) {
            due(6000, () -> x.on(0, laps));
        }
        due(60000 / 11, () -> x.on(1, 0));
        due(6000, () -> x.on(1, 1));
        due(6000, () -> x.on(1, 2));
        due(60000 / 11, () -> x.on(2, 38));
        due(6000, () -> x.on(2, 39));
        due(6000, () -> x.on(3, 38));
        due(6000, () -> x.on(3, 39));
    }

    @Says("Terms: by the GRIP of its tyre (in place of that told by set()).")
    static void gripToldBySetDoesNotBearOnTyres() {
        LapBoard x = bend();
        x.two(false);
        for (int grip : new int[] {20, -20}) {
            x.set(0, grip);
            due(60000 / (30 + grip), () -> x.lap());
            due(2000, () -> x.on(0, 0));
            due(2000, () -> x.race(1));
            due(60000 / (30 + grip), () -> x.lap());
        }
    }

    @Says("Promise 23: that has done so many (0 .. 39). IllegalArgumentException: no such.")
    static void onATyreWithLapsOutOfRange() {
        LapBoard x = straight();
        for (int laps : new int[] {-1, -2, 40, 41, 256, LEAST, MOST}) {
            dueNoSuch(() -> x.on(0, laps));
            dueNoSuch(() -> new LapBoard().on(0, laps));
        }
        due(1000, () -> x.on(0, 0));
        due(1000, () -> x.on(0, 39));
    }

    @Says("Promise 23: The TIME of a lap on a TYRE. IllegalArgumentException: no such.")
    static void onNoTyre() {
        LapBoard x = straight();
        for (int tyre : new int[] {-1, 4, 5, 256, LEAST, MOST}) {
            dueNoSuch(() -> x.on(tyre, 0));
            dueNoSuch(() -> new LapBoard().on(tyre, 0));
        }
        due(1000, () -> x.on(3, 0));
    }

    // ---- promise 24: race

    @Says("Terms: A RACE has 1 .. 40 laps; Promise 24: IllegalArgumentException: no such.")
    static void racesAreOfOneToFortyLaps() {
        LapBoard x = straight();
        LapBoard none = new LapBoard();
        for (int laps : new int[] {0, -1, 41, 42, 256, LEAST, MOST}) {
            dueNoSuch(() -> x.race(laps));
            dueNoSuch(() -> none.race(laps));
        }
        due(1000, () -> x.race(1));
        due(60000, () -> x.race(40));
    }

    @Says("Terms: Without STATIONS a lap has TIME 0 (of a RACE the STOPS alone).")
    static void raceWithoutStations() {
        LapBoard x = new LapBoard();
        due(0, () -> x.race(1));
        due(20000, () -> x.race(2));
        due(20000, () -> x.race(40));
        duePlan(x, 3, new int[] {0, 0, 0}, new int[] {0, 0, 1}, new int[] {1, 1, 0});
        x.set(3, 100000);
        due(100000, () -> x.race(40));
        x.set(3, 0);
        due(0, () -> x.race(40));
        x.two(false);
        x.set(3, 100000);
        due(0, () -> x.race(40));
        due(0, () -> x.stops(40));
    }

    @Says("Terms: STOP time 0 .. 100000 (the least: a new tyre each lap).")
    static void stopsThatTakeNoTime() {
        LapBoard x = wearing();
        x.set(3, 0);
        x.two(false);
        due(80000, () -> x.race(40));
        due(39, () -> x.stops(40));
        for (int lap : new int[] {1, 20, 39}) {
            due(0, () -> x.plan(40, lap, 0));
            due(1, () -> x.plan(40, lap, 1));
            due(0, () -> x.plan(40, lap, 2));
        }
        x.two(true);
        due(78000 + 2500, () -> x.race(40));
        due(39, () -> x.stops(40));
        due(0, () -> x.plan(40, 38, 0));
        due(1, () -> x.plan(40, 39, 0));
    }

    @Says("Terms: STOP time 0 .. 100000 (the greatest: no STOP but the one that must be).")
    static void stopsThatTakeTheMostTime() {
        LapBoard x = wearing();
        x.set(3, 100000);
        x.two(false);
        // 1 to 20 laps at -6, 20 at -7
        due(20 * 2500 + 20 * (60000 / 23), () -> x.race(40));
        due(0, () -> x.stops(40));
        due(1, () -> x.plan(40, 0, 0));
        due(39, () -> x.plan(40, 39, 2));
        x.two(true);
        due(1, () -> x.stops(40));
    }

    @Says("Terms: A RACE: each lap takes the TIME of THE BEST WAY (the longest there is).")
    static void theLongestRace() {
        LapBoard x = alike(30, 30, 99, 1);
        x.set(3, 100000);
        due(40L * 2970000 + 100000, () -> x.race(40));
        x.two(false);
        due(40L * 2970000, () -> x.race(40));
    }

    @Says("Terms: ahead of each lap but the first one may STOP.")
    static void noStopAheadOfTheFirstLap() {
        LapBoard x = wearing();
        x.set(3, 0);
        for (int laps : new int[] {1, 2, 3, 40}) {
            due(0, () -> x.plan(laps, 0, 1));
            due(0, () -> x.plan(laps, 0, 2));
        }
        due(2000, () -> x.race(1));
        due(0, () -> x.stops(1));
        due(1, () -> x.plan(2, 1, 1));
    }

    // ---- promise 25: plan

    @Says("Promise 25: By THE PLAN of a RACE: .. -1 (of no RACE).")
    static void planOfNoRace() {
        LapBoard x = straight();
        for (int laps : new int[] {0, -1, 41, 42, 256, LEAST, MOST}) {
            due(-1, () -> x.plan(laps, 0, 0));
            due(-1, () -> x.plan(laps, -1, 0));
        }
        due(0, () -> x.plan(1, 0, 0));
        due(0, () -> x.plan(40, 0, 0));
    }

    @Says("Promise 25: in a lap: .. -1 (in none of the RACE).")
    static void planInNoLap() {
        LapBoard x = straight();
        for (int laps : new int[] {1, 2, 39, 40}) {
            for (int lap : new int[] {-1, laps, laps + 1, 256, LEAST, MOST}) {
                for (int what = 0; what < 3; what++) {
                    int of = what;
                    due(-1, () -> x.plan(laps, lap, of));
                }
            }
        }
        due(0, () -> x.plan(1, 0, 0));
        due(1, () -> x.plan(40, 39, 0));
    }

    @Says("Promise 25: the TYRE (what = 0), whether one STOPS (1), how many laps the tyre had done (2). -1 (of no such).")
    static void planOfNoSuch() {
        LapBoard x = straight();
        for (int what : new int[] {-1, 3, 4, 256, LEAST, MOST}) {
            due(-1, () -> x.plan(3, 2, what));
        }
        due(1, () -> x.plan(3, 2, 0));
        due(1, () -> x.plan(3, 2, 1));
        due(0, () -> x.plan(3, 2, 2));
    }

    @Says("Promise 25: how many laps the tyre had done (2) (39 at most).")
    static void theOldestTyre() {
        LapBoard x = straight();
        x.two(false);
        for (int lap = 0; lap < 40; lap++) {
            int done = lap;
            due(done, () -> x.plan(40, done, 2));
            due(0, () -> x.plan(40, done, 0));
            due(0, () -> x.plan(40, done, 1));
        }
    }

    @Says("Terms: of several, at the first lap at which they are unlike, the one that goes on there.")
    static void ofSeveralPlansTheOneThatGoesOn() {
        LapBoard x = straight();
        x.set(3, 0);
        duePlan(x, 4, new int[] {0, 0, 0}, new int[] {0, 0, 1}, new int[] {0, 0, 2}, new int[] {1, 1, 0});
        due(1, () -> x.stops(40));
        due(38, () -> x.plan(40, 38, 2));
        due(1, () -> x.plan(40, 39, 1));
        // TYRE 0 goes on while it is as good as a new one: for two laps
        LapBoard y = bend();
        y.set(3, 0);
        y.tyre(0, 0, 2);
        y.tyre(1, 0, 1);
        y.tyre(2, -20, 1);
        y.tyre(3, 0, 20);
        duePlan(y, 3, new int[] {0, 0, 0}, new int[] {0, 0, 1}, new int[] {1, 1, 0});
        duePlan(y, 4, new int[] {0, 0, 0}, new int[] {0, 0, 1}, new int[] {0, 1, 0}, new int[] {1, 1, 0});
    }

    @Says("Terms: (no STOP, for the same kind neither).")
    static void noStopForTheSameKindWhereItBringsNothing() {
        LapBoard x = bend();
        x.set(3, 0);
        x.two(false);
        x.tyre(0, 5, 3);
        // alike for three laps: then a new one
        duePlan(x, 6, new int[] {0, 0, 0}, new int[] {0, 0, 1}, new int[] {0, 0, 2}, new int[] {0, 1, 0},
                new int[] {0, 0, 1}, new int[] {0, 0, 2});
        due(1, () -> x.stops(6));
        due(2, () -> x.stops(7));
        x.two(true);
        x.tyre(1, 5, 3);
        // kind 0 again is lesser than 1, and 1 may yet come at the last lap
        duePlan(x, 6, new int[] {0, 0, 0}, new int[] {0, 0, 1}, new int[] {0, 0, 2}, new int[] {0, 1, 0},
                new int[] {0, 0, 1}, new int[] {1, 1, 0});
    }

    @Says("Terms: else the lesser kind.")
    static void ofSeveralPlansTheLesserKind() {
        LapBoard x = wearing();
        x.set(3, 0);
        // kinds 1, 2 and 3 are alike
        duePlan(x, 2, new int[] {0, 0, 0}, new int[] {1, 1, 0});
        x.tyre(1, -7, 20);
        duePlan(x, 2, new int[] {0, 0, 0}, new int[] {2, 1, 0});
        x.tyre(2, -7, 20);
        duePlan(x, 2, new int[] {0, 0, 0}, new int[] {3, 1, 0});
        // the same kind again is the lesser one, while the other may yet come
        LapBoard y = bend();
        y.set(3, 0);
        for (int t = 0; t < 4; t++) {
            y.tyre(t, 0, 1);
        }
        duePlan(y, 3, new int[] {0, 0, 0}, new int[] {0, 1, 0}, new int[] {1, 1, 0});
        y.two(false);
        duePlan(y, 3, new int[] {0, 0, 0}, new int[] {0, 1, 0}, new int[] {0, 1, 0});
    }

    @Says("Terms: at lap 0 the lesser kind.")
    static void atLapNoughtTheLesserKind() {
        LapBoard x = bend();
        x.tyre(0, -1, 20);
        x.tyre(1, -1, 20);
        x.tyre(2, 0, 20);
        x.tyre(3, 0, 20);
        x.two(false);
        due(2, () -> x.plan(1, 0, 0));
        due(2, () -> x.plan(40, 0, 0));
        x.tyre(1, 0, 20);
        due(1, () -> x.plan(1, 0, 0));
        due(1, () -> x.plan(40, 0, 0));
        x.tyre(0, 0, 20);
        due(0, () -> x.plan(1, 0, 0));
        due(0, () -> x.plan(40, 0, 0));
        // kind 0 for one lap, then 1: or 1 first; the lesser is on at lap 0, though it must STOP sooner
        LapBoard y = bend();
        y.tyre(0, 0, 1);
        y.tyre(1, 0, 20);
        y.tyre(2, -20, 1);
        y.tyre(3, -20, 1);
        duePlan(y, 3, new int[] {0, 0, 0}, new int[] {1, 1, 0}, new int[] {1, 0, 1});
        due(6000 + 20000, () -> y.race(3));
    }

    @Says("Promise 25: By THE PLAN of a RACE (of races of unlike laps in turn).")
    static void plansOfSeveralRacesInTurn() {
        LapBoard x = straight();
        for (int round = 0; round < 2; round++) {
            due(1, () -> x.plan(2, 1, 0));
            due(0, () -> x.plan(3, 1, 0));
            due(1, () -> x.plan(3, 2, 0));
            due(0, () -> x.plan(40, 38, 0));
            due(40000 + 20000, () -> x.race(40));
            due(2000 + 20000, () -> x.race(2));
        }
    }

    @Says("Promises 24 to 26: THE PLAN (after each change anew).")
    static void thePlanFollowsEachChange() {
        LapBoard x = bend();
        due(24000, () -> x.race(2));
        x.set(3, 5);
        due(4005, () -> x.race(2));
        x.tyre(0, 10, 5);
        due(1500 + 2000 + 5, () -> x.race(2));
        x.two(false);
        due(3000, () -> x.race(2));
        x.base(0, 20);
        due(4000, () -> x.race(2));
        x.set(2, 15);
        due(8000, () -> x.race(2));
        x.station(30, 10, 1);
        // 7 by the BRAKE
        due(2 * (60000 / 7 + 10000), () -> x.race(2));
        x.set(1, 1);
        due(2 * (30000 + 10000), () -> x.race(2));
        x.undo();
        due(8000, () -> x.race(2));
        x.station(0, 60, 1);
        due(2 * (4000 + 3000), () -> x.race(2));
        x.gear(6, 60, 20);
        due(2 * (4000 + 60000 / 35), () -> x.race(2));
        due(0, () -> x.stops(2));
        x.two(true);
        due(1, () -> x.stops(2));
    }

    @Says("Promises 24 to 26: THE PLAN of a RACE (another one was weighed ahead of the change).")
    static void anotherRaceAfterAChange() {
        LapBoard x = bend();
        due(24000, () -> x.race(2));
        x.set(3, 5);
        due(2000, () -> x.race(1));
        due(4005, () -> x.race(2));
        x.tyre(0, 10, 5);
        due(1500, () -> x.race(1));
        due(1500 + 2000 + 5, () -> x.race(2));
        x.two(false);
        due(1500, () -> x.race(1));
        due(3000, () -> x.race(2));
        x.base(0, 20);
        due(2000, () -> x.race(1));
        due(0, () -> x.stops(1));
    }

    // ---- promise 26: stops

    @Says("Promise 26: -1.")
    static void stopsOfNoRace() {
        LapBoard x = straight();
        for (int laps : new int[] {0, -1, 41, 42, 256, LEAST, MOST}) {
            due(-1, () -> x.stops(laps));
        }
        due(0, () -> x.stops(1));
        due(1, () -> x.stops(40));
        due(-1, () -> new LapBoard().stops(0));
        due(1, () -> new LapBoard().stops(40));
    }

    @Says("Promise 26: How many STOPS THE PLAN has (none, and ahead of each lap but the first).")
    static void fewestAndMostStops() {
        LapBoard x = wearing();
        x.set(3, 0);
        x.two(false);
        for (int laps : new int[] {1, 2, 39, 40}) {
            due(laps - 1, () -> x.stops(laps));
        }
        x.set(3, 100000);
        for (int laps : new int[] {1, 2, 39, 40}) {
            due(0, () -> x.stops(laps));
        }
    }
}
