/** PACES, WAYS and what changes are worth: each sentence that names an edge, by a test of its own. */
public final class WaysEdgesTest extends Answers {
    public static void main(String[] args) {
        runAll(WaysEdgesTest.class);
    }

    private static LapBoard begun(int start, int brake, LapBoard x) {
        x.set(2, start);
        x.set(1, brake);
        return x;
    }

    // ---- paces of a way; promise 10: quickest

    @Says("Promise 10: -1 (of no LANE).")
    static void quickestOnNoLane() {
        LapBoard x = board(0, 10, 10);
        for (int lane : new int[] {-1, 3, 4, 256, LEAST, MOST}) {
            due(-1, () -> x.quickest(lane, 0));
        }
        due(20, () -> x.quickest(0, 0));
        due(20, () -> x.quickest(2, 0));
    }

    @Says("Promise 10: the pace at a STATION. -1 (at none).")
    static void quickestAtNoStation() {
        LapBoard x = board(0, 10, 10, 0, 10, 10);
        for (int station : new int[] {-1, 2, 29, 30, 256, LEAST, MOST}) {
            due(-1, () -> x.quickest(0, station));
        }
        due(25, () -> x.quickest(0, 1));
        x.undo();
        due(-1, () -> x.quickest(0, 1));
        due(-1, () -> new LapBoard().quickest(0, 0));
        LapBoard full = alike(30, 30, 10, 7);
        due(7, () -> full.quickest(1, 29));
        due(-1, () -> full.quickest(1, 30));
    }

    @Says("Terms: at STATION 0 no more than START.")
    static void startHoldsStationNoughtAlone() {
        LapBoard x = board(0, 10, 10, 0, 10, 10, 0, 10, 10);
        dueQuickest(x, 0, 20, 25, 30);
        x.set(2, 1);
        dueQuickest(x, 0, 1, 8, 14);
        x.set(2, 60);
        dueQuickest(x, 0, 60, 60, 60);
    }

    @Says("Terms: at no STATION above its LIMIT there (at STATION 0 as well).")
    static void limitHoldsEachStation() {
        LapBoard x = begun(60, 30, board(30, 10, 1, 30, 10, 8, 30, 10, 9, 30, 10, 60));
        // REACH: 8 from 1, 14 from 8, 15 from 9
        dueQuickest(x, 0, 1, 8, 9, 15);
        LapBoard y = begun(60, 6, board(10, 10, 30));
        dueQuickest(y, 0, 30);
        dueQuickest(y, 1, 27);
        dueQuickest(y, 2, 24);
    }

    @Says("Terms: at each next one no more than REACH of that before.")
    static void reachHoldsEachNextStation() {
        LapBoard x = begun(1, 6, alike(14, 0, 10, 10));
        dueQuickest(x, 0, 1, 8, 14, 20, 25, 30, 34, 38, 41, 44, 47, 50, 52, 54);
        for (int g = 1; g <= 6; g++) {
            x.gear(g, 60, 20);
        }
        dueQuickest(x, 0, 1, 21, 41, 60, 60);
    }

    @Says("Terms: PACES on it: 1 or more.")
    static void pacesAreOneAtLeast() {
        LapBoard x = begun(1, 1, board(0, 10, 10, 30, 10, 1, 0, 10, 10, 20, 10, 1));
        for (int g = 1; g <= 6; g++) {
            x.gear(g, 1, 20);
        }
        x.set(0, -20);
        for (int lane = 0; lane < 3; lane++) {
            dueQuickest(x, lane, 1, 1, 1, 1);
        }
        due(40000, () -> x.along(0));
    }

    @Says("Terms: no less than that before less BRAKE (the least BRAKE, from far ahead).")
    static void leastBrakeBearsFarBack() {
        LapBoard x = begun(60, 1, alike(29, 0, 10, 10));
        x.station(30, 10, 1);
        for (int i = 0; i < 30; i++) {
            int station = i;
            due(30 - station, () -> x.quickest(0, station));
        }
        x.set(2, 10);
        for (int i = 0; i < 30; i++) {
            int station = i;
            // REACH from 10 on: 16, 21, 26; then 30 - station holds
            int pace = i == 0 ? 10 : i == 1 ? 16 : i == 2 ? 21 : i == 3 ? 26 : 30 - i;
            due(pace, () -> x.quickest(0, station));
        }
    }

    @Says("Terms: no less than that before less BRAKE (the greatest BRAKE).")
    static void greatestBrakeBearsOneBack() {
        LapBoard x = begun(60, 30, board(0, 10, 10, 0, 10, 10, 0, 10, 10, 30, 10, 1));
        dueQuickest(x, 0, 60, 60, 31, 1);
        x.base(3, 30);
        dueQuickest(x, 0, 60, 60, 60, 30);
        x.base(3, 29);
        dueQuickest(x, 0, 60, 60, 59, 29);
    }

    @Says("Terms: (the last STATION is no neighbour of STATION 0) (of their PACES).")
    static void pacesDoNotGoRound() {
        // if REACH went round, STATION 0 could be 8 at most
        LapBoard x = begun(60, 30, board(0, 10, 10, 30, 10, 31, 30, 10, 1));
        dueQuickest(x, 0, 60, 31, 1);
        due(60, () -> x.best(0, 1));
        // if BRAKE went round, the last could be START 1 and 6 at most
        LapBoard y = begun(1, 6, board(0, 10, 10, 0, 10, 10, 0, 10, 10));
        dueQuickest(y, 0, 1, 8, 14);
        due(14, () -> y.best(2, 1));
    }

    @Says("Terms: those that are at each STATION as great as they can be (of one STATION).")
    static void quickestOfOneStation() {
        due(20, () -> board(0, 10, 10).quickest(0, 0));
        due(1, () -> begun(60, 1, board(30, 10, 1)).quickest(2, 0));
        due(60, () -> begun(60, 1, board(0, 10, 1)).quickest(2, 0));
    }

    // ---- times; promise 11: along

    @Says("Terms: times 1000, by the pace, cut.")
    static void timesAreCut() {
        LapBoard x = begun(60, 6, board(30, 99, 7));
        due(14142, () -> x.best(0, 2));
        due(14142, () -> x.along(0));
        x.base(0, 60);
        due(1650, () -> x.along(0));
        x.base(0, 1);
        due(99000, () -> x.along(0));
        // cut at each STATION, not in all: 1000 by 60 is 16 and two thirds
        LapBoard y = begun(60, 6, board(0, 1, 1, 0, 1, 1, 0, 1, 1));
        due(48, () -> y.along(0));
        due(48, () -> y.lap());
    }

    @Says("Terms: LENGTH (and 2, if the LANE is another than at the STATION of the number before).")
    static void aChangeOfLaneIsTwoLonger() {
        // LANES 1, 2: 17 and 20; LANES 0, 2 would be 20 and 20
        LapBoard x = board(10, 99, 20, 12, 99, 20);
        dueLanes(x, 1, 2);
        due(17, () -> x.best(0, 1));
        due(20, () -> x.best(1, 1));
        due(99000 / 17, () -> x.best(0, 2));
        due(101000 / 20, () -> x.best(1, 2));
        due(99000 / 17 + 101000 / 20, () -> x.lap());
    }

    @Says("Terms: another than at the STATION of the number before (STATION 0 has none before, whatever the last one's LANE).")
    static void stationNoughtNeverChangesLane() {
        LapBoard x = board(12, 99, 20);
        dueLanes(x, 2);
        due(4950, () -> x.best(0, 2));
        due(0, () -> x.count(3));
        LapBoard y = board(12, 99, 20, 10, 99, 20);
        dueLanes(y, 1, 0);
        due(99000 / 17, () -> y.best(0, 2));
        due(1, () -> y.count(3));
    }

    @Says("Terms: TIME of a lap: of all STATIONS (the longest there is).")
    static void theLongestLap() {
        LapBoard x = alike(30, 30, 99, 1);
        due(2970000, () -> x.lap());
        due(2970000, () -> x.along(2));
        due(2970000, () -> x.on(3, 39));
    }

    @Says("Terms: TIME of a lap: of all STATIONS (the shortest there is).")
    static void theShortestLap() {
        LapBoard x = begun(60, 30, board(0, 1, 1));
        due(16, () -> x.lap());
        due(16, () -> x.along(1));
        due(16, () -> x.best(0, 2));
    }

    @Says("Promise 11: IllegalArgumentException: no such LANE.")
    static void alongNoLane() {
        LapBoard x = board(0, 50, 10);
        LapBoard none = new LapBoard();
        for (int lane : new int[] {-1, 3, 4, 256, LEAST, MOST}) {
            dueNoSuch(() -> x.along(lane));
            dueNoSuch(() -> none.along(lane));
        }
        due(2500, () -> x.along(0));
        due(2500, () -> x.along(2));
    }

    // ---- the best way; promises 12 and 13: best, lap

    @Says("Terms: neighbours unlike by 1 at most.")
    static void lanesDoNotJump() {
        // over LANES 0, 2 this would take 4950 and 5050
        LapBoard x = board(10, 99, 20, 12, 99, 20);
        due(5823 + 5050, () -> x.lap());
        // one STATION between is enough to come over, by two changes
        LapBoard y = board(10, 99, 20, 30, 1, 20, 12, 99, 20);
        dueLanes(y, 0, 1, 2);
        due(4950 + 150 + 5050, () -> y.lap());
        due(2, () -> y.count(3));
        // from LANE 2, at 14, REACH holds both LANES 0 and 1 at 20: LANE 0 is too far off all the same
        LapBoard z = board(12, 99, 14, 10, 99, 23);
        dueLanes(z, 2, 1);
        due(7071 + 5050, () -> z.lap());
    }

    @Says("Terms: neighbours unlike by 1 at most (the last STATION is no neighbour of STATION 0).")
    static void lanesDoNotGoRound() {
        LapBoard x = board(10, 99, 20, 30, 1, 20, 12, 99, 20);
        due(0, () -> x.best(0, 0));
        due(2, () -> x.best(2, 0));
    }

    @Says("Terms: of several the one with the lesser LANE (from the least START on: LANE 0).")
    static void fromTheLeastStartTheLeastLane() {
        LapBoard x = begun(1, 6, board(12, 10, 60, 0, 10, 10));
        dueLanes(x, 0, 0);
        due(1, () -> x.best(0, 1));
        LapBoard y = begun(60, 6, board(30, 10, 1));
        dueLanes(y, 0);
    }

    @Says("Terms: of several the one with the lesser LANE at the first STATION (on STRAIGHTS: LANE 0).")
    static void ofAllWaysAlikeTheLeast() {
        LapBoard x = alike(30, 2, 10, 10);
        for (int i = 0; i < 30; i++) {
            int station = i;
            due(0, () -> x.best(station, 0));
        }
        due(0, () -> x.count(3));
    }

    @Says("Terms: the lesser LANE at the first STATION at which they are unlike (not at the last).")
    static void theFirstStationUnlikeSettlesIt() {
        // LANES 1 1 1 1 take 444, 43, 629, 129; LANES 2 1 0 0 take 380, 115, 633, 117: 1245 both
        LapBoard x = begun(60, 30, board(12, 8, 21, 20, 1, 38, 10, 17, 30, 20, 4, 56));
        due(1245, () -> x.lap());
        dueLanes(x, 1, 1, 1, 1);
        due(0, () -> x.count(3));
        due(1245, () -> x.along(1));
    }

    @Says("Terms: the lesser LANE at the first STATION at which they are unlike (a change as late as can be, or as early).")
    static void aChangeIsMadeWhereTheLesserLaneComesFirst() {
        dueLanes(board(10, 99, 20, 30, 10, 20, 30, 10, 20, 11, 99, 20), 0, 0, 0, 1);
        dueLanes(board(11, 99, 20, 30, 10, 20, 30, 10, 20, 10, 99, 20), 1, 0, 0, 0);
    }

    @Says("Terms: of several ..: TIMES are alike once they are cut.")
    static void timesCutMakeWaysAlike() {
        // 1000 by 59 and by 60 are both 16; by 58 it is 17
        LapBoard x = begun(60, 6, board(11, 1, 60));
        x.set(0, 2);
        dueLanes(x, 0);
        due(59, () -> x.best(0, 1));
        x.set(0, 1);
        dueLanes(x, 1);
        due(60, () -> x.best(0, 1));
    }

    @Says("Terms: THE BEST WAY: (the greatest paces, at the STATION before or on a track before, are no matter).")
    static void pacesThatAreNotOnTheWayAreNoMatter() {
        // at 60 LANE 0 would be the quicker one at the last STATION; from 30 on REACH holds all LANES at 34
        LapBoard x = begun(60, 30, board(0, 1, 1, 11, 99, 30, 10, 99, 60));
        dueLanes(x, 1, 1, 1);
        due(16 + 3300 + 99000 / 34, () -> x.lap());
        // the same of a track that stood before, where 60 was driven
        LapBoard y = begun(60, 6, board(0, 1, 1));
        due(16, () -> y.lap());
        y.undo();
        y.station(11, 99, 4);
        y.station(10, 99, 60);
        dueLanes(y, 1, 1);
        due(24750 + 9900, () -> y.lap());
    }

    @Says("Terms: at STATION 0 no more than START (above it a lesser LANE would take just as long).")
    static void aLesserLaneAboveStartIsNone() {
        // by 16 on LANE 0, then over to LANE 1, this would take 1500 and 3000
        LapBoard x = begun(12, 30, board(0, 24, 1, 11, 10, 4));
        due(2000 + 2500, () -> x.lap());
        dueLanes(x, 1, 1);
    }

    @Says("Terms: no less than that before less BRAKE (below it a lesser LANE would take just as long).")
    static void aLesserLaneThatCanNotBeBrakedForIsNone() {
        // by 10 and 3 LANES 0, 0 would take 9900 and 666 too
        LapBoard x = begun(20, 4, board(10, 99, 10, 11, 2, 6));
        due(9900 + 666, () -> x.lap());
        dueLanes(x, 0, 1);
        due(10, () -> x.best(0, 1));
        due(6, () -> x.best(1, 1));
        x.set(1, 7);
        dueLanes(x, 0, 0);
        due(3, () -> x.best(1, 1));
    }

    @Says("Terms: no more than REACH of that before (above it a lesser LANE would take just as long).")
    static void aLesserLaneOutOfReachIsNone() {
        // REACH of 10 is 16; over to LANE 0 by 20 this would take 9900 and 500 too
        LapBoard x = board(11, 99, 10, 0, 8, 1);
        due(9900 + 500, () -> x.lap());
        dueLanes(x, 1, 1);
        due(16, () -> x.best(1, 1));
    }

    @Says("Terms: at no STATION above its LIMIT there (above it a lesser LANE would take just as long).")
    static void aLesserLaneAboveItsLimitIsNone() {
        // LANE 0 allows 3 at STATION 1; by 8 it would take 1000 too
        LapBoard x = begun(20, 30, board(11, 99, 10, 11, 6, 6));
        due(9900 + 1000, () -> x.lap());
        dueLanes(x, 1, 1);
        due(6, () -> x.best(1, 1));
    }

    @Says("Promise 12: its LANE (what = 0), pace (1), TIME (2) at a STATION. -1 (of no such).")
    static void bestOfNoSuch() {
        LapBoard x = board(0, 10, 10);
        for (int what : new int[] {-1, 3, 4, 256, LEAST, MOST}) {
            due(-1, () -> x.best(0, what));
        }
        due(0, () -> x.best(0, 0));
        due(20, () -> x.best(0, 1));
        due(500, () -> x.best(0, 2));
    }

    @Says("Promise 12: at a STATION. -1 (at none).")
    static void bestAtNoStation() {
        LapBoard x = board(0, 10, 10, 0, 10, 10);
        for (int station : new int[] {-1, 2, 29, 30, 256, LEAST, MOST}) {
            for (int what = 0; what < 3; what++) {
                int of = what;
                due(-1, () -> x.best(station, of));
            }
        }
        due(25, () -> x.best(1, 1));
        x.undo();
        due(-1, () -> x.best(1, 1));
        due(-1, () -> new LapBoard().best(0, 0));
        LapBoard full = alike(30, 30, 10, 5);
        due(2000, () -> full.best(29, 2));
        due(-1, () -> full.best(30, 2));
    }

    @Says("Promise 13: The TIME of THE BEST WAY (after each change anew).")
    static void lapFollowsEachChange() {
        LapBoard x = board(10, 60, 30);
        due(3000, () -> x.lap());
        x.set(2, 60);
        due(2000, () -> x.lap());
        x.set(0, 10);
        due(1500, () -> x.lap());
        x.base(0, 20);
        due(2000, () -> x.lap());
        x.station(30, 60, 4);
        due(60000 / 10 + 15000, () -> x.lap());
        x.set(1, 16);
        due(60000 / 20 + 15000, () -> x.lap());
        x.base(1, 60);
        due(60000 / 30 + 60000 / 34, () -> x.lap());
        x.gear(6, 60, 20);
        due(60000 / 30 + 60000 / 50, () -> x.lap());
        x.undo();
        due(2000, () -> x.lap());
        x.undo();
        due(0, () -> x.lap());
    }

    // ---- promise 14: worth

    /** A BEND of BASE 15, held at 7 by the BRAKE ahead of a CREST of BASE 1: 12857 and 99000. */
    private static LapBoard held() {
        return board(10, 90, 15, 30, 99, 1);
    }

    @Says("Promise 14: (what as in set(), 0 to 2). IllegalArgumentException: no such (STOP is none here).")
    static void worthOfNoSuch() {
        LapBoard x = held();
        for (int what : new int[] {-1, 3, 4, 256, LEAST, MOST}) {
            dueNoSuch(() -> x.worth(what, 1));
            dueNoSuch(() -> x.worth(what, 20000));
            dueNoSuch(() -> new LapBoard().worth(what, 1));
        }
    }

    @Says("Promise 14: IllegalArgumentException: out of range (of GRIP).")
    static void worthOfAGripOutOfRange() {
        dueWorthRange(0, -20, 20);
    }

    @Says("Promise 14: IllegalArgumentException: out of range (of BRAKE).")
    static void worthOfABrakeOutOfRange() {
        dueWorthRange(1, 1, 30);
    }

    @Says("Promise 14: IllegalArgumentException: out of range (of START).")
    static void worthOfAStartOutOfRange() {
        dueWorthRange(2, 1, 60);
    }

    private static void dueWorthRange(int what, int least, int most) {
        LapBoard x = held();
        LapBoard none = new LapBoard();
        for (int n : new int[] {least - 1, least - 2, most + 1, most + 2, most + 256, LEAST, MOST}) {
            dueNoSuch(() -> x.worth(what, n));
            dueNoSuch(() -> none.worth(what, n));
        }
        due(0, () -> none.worth(what, least));
        due(0, () -> none.worth(what, most));
    }

    @Says("Promise 14: What it would be less, if a number were n (at the least and the greatest n).")
    static void worthAtTheEnds() {
        LapBoard x = held();
        due(12857 + 99000, () -> x.lap());
        due(12857 - 90000, () -> x.worth(0, -20));
        due(0, () -> x.worth(0, 20));
        due(12857 - 45000, () -> x.worth(1, 1));
        due(12857 - 6000, () -> x.worth(1, 30));
        due(12857 - 90000, () -> x.worth(2, 1));
        due(0, () -> x.worth(2, 60));
    }

    @Says("Promise 14: (this may be below 0).")
    static void worthBelowNought() {
        LapBoard x = board(0, 60, 10);
        due(3000 - 60000, () -> x.worth(2, 1));
        due(3000 - 1000, () -> x.worth(2, 60));
        due(0, () -> x.worth(2, 20));
    }

    @Says("Promise 14: if a number were n (it is not: nothing is changed).")
    static void worthChangesNothing() {
        LapBoard x = held();
        x.worth(0, -20);
        x.worth(1, 1);
        x.worth(2, 1);
        due(12857 + 99000, () -> x.lap());
        due(7, () -> x.best(0, 1));
        due(7, () -> x.quickest(0, 0));
        due(15, () -> x.limit(0, 0));
        due(0, () -> x.set(0, 0));
        due(6, () -> x.set(1, 6));
        due(20, () -> x.set(2, 20));
    }

    @Says("Promise 14: if a number were n (as it is already: 0).")
    static void worthOfTheNumberThatIs() {
        LapBoard x = held();
        x.set(0, -3);
        x.set(1, 9);
        x.set(2, 11);
        due(0, () -> x.worth(0, -3));
        due(0, () -> x.worth(1, 9));
        due(0, () -> x.worth(2, 11));
    }

    // ---- promise 15: wants

    @Says("Promise 15: -2: none does (there are no STATIONS).")
    static void nothingWantsWithoutStations() {
        LapBoard x = new LapBoard();
        due(-2, () -> x.wants());
        x.station(30, 60, 15);
        due(0, () -> x.wants());
        x.undo();
        due(-2, () -> x.wants());
    }

    @Says("Promise 15: -2: none does (on STRAIGHTS BASE is no matter).")
    static void straightsWantNothing() {
        due(-2, () -> board(0, 50, 10, 2, 99, 1, 1, 99, 59).wants());
    }

    @Says("Promise 15: -2: none does (the TIME is cut to the same).")
    static void aTimeCutToTheSameWantsNothing() {
        // 1000 by 59 and by 60 are both 16; by 58 it is 17
        LapBoard x = begun(60, 6, board(30, 1, 59));
        due(-2, () -> x.wants());
        x.base(0, 58);
        due(0, () -> x.wants());
    }

    @Says("Promise 15: whose BASE, 1 more (not 2).")
    static void oneMoreIsNotTwoMore() {
        // 1000 by 57 and by 58 are both 17; by 59 it is 16
        LapBoard x = begun(60, 6, board(30, 1, 57));
        due(-2, () -> x.wants());
        x.base(0, 58);
        due(0, () -> x.wants());
    }

    @Says("Promise 15: -2: none does (START or the BRAKE holds it back).")
    static void oneThatIsHeldBackWantsNothing() {
        LapBoard x = board(30, 60, 20);
        due(-2, () -> x.wants());
        x.set(2, 21);
        due(0, () -> x.wants());
        // held at 7 by the BRAKE ahead of STATION 1
        due(1, () -> board(30, 99, 7, 30, 1, 1).wants());
    }

    @Says("Promise 15: 1 more (60 at most) (of a CREST).")
    static void aCrestOfBaseSixtyWantsNothing() {
        LapBoard x = begun(60, 6, board(30, 60, 60));
        due(-2, () -> x.wants());
        x.base(0, 59);
        due(0, () -> x.wants());
    }

    @Says("Promise 15: 1 more (60 at most) (of a BEND whose GRIP holds its LIMIT below 60).")
    static void aBendOfBaseSixtyWantsNothing() {
        LapBoard x = begun(60, 6, board(10, 60, 60, 20, 60, 60));
        x.set(0, -10);
        due(50, () -> x.limit(0, 0));
        due(46, () -> x.limit(1, 0));
        due(-2, () -> x.wants());
        x.base(1, 59);
        due(1, () -> x.wants());
        x.base(0, 59);
        x.base(1, 60);
        due(0, () -> x.wants());
    }

    @Says("Promise 15: makes a lap the most TIME less.")
    static void theOneThatMakesTheMostLess() {
        // 60000 by 15 and 16: 250 less; by 14 and 15: 285 less
        LapBoard x = board(30, 60, 15, 30, 60, 14, 30, 60, 15);
        due(1, () -> x.wants());
        x.base(2, 13);
        due(2, () -> x.wants());
        x.base(0, 12);
        due(0, () -> x.wants());
    }

    @Says("Promise 15: of several the least.")
    static void ofSeveralThatWantTheLeast() {
        due(0, () -> board(30, 60, 15, 30, 60, 15, 30, 60, 15).wants());
        due(1, () -> board(0, 60, 15, 30, 60, 15, 30, 60, 15).wants());
        due(0, () -> alike(30, 30, 60, 15).wants());
    }

    @Says("Promise 15: The STATION (the last of a full track).")
    static void theLastStationOfAFullTrackWants() {
        LapBoard x = alike(29, 0, 10, 10);
        x.station(30, 99, 10);
        due(29, () -> x.wants());
    }

    @Says("Promise 15: whose BASE, 1 more, makes a lap .. less (it stays as it is).")
    static void wantsChangesNothing() {
        LapBoard x = board(30, 60, 15, 10, 60, 14, 20, 60, 60);
        x.set(2, 15);
        long lap = x.lap();
        due(1, () -> x.wants());
        due(1, () -> x.wants());
        due(lap, () -> x.lap());
        dueLimits(x, 0, 15, 15, 15);
        dueLimits(x, 1, 14, 11, 8);
        dueLimits(x, 2, 56, 53, 50);
        due(15, () -> x.base(0, 15));
        due(14, () -> x.base(1, 14));
        due(60, () -> x.base(2, 60));
    }
}
