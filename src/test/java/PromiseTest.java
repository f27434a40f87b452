/** For each promise of the document: ordinary inputs, the edges that it names, and wrong inputs. */
public final class PromiseTest extends Answers {
    public static void main(String[] args) {
        newObject();
        station();
        undo();
        base();
        gear();
        set();
        limit();
        reach();
        shift();
        quickest();
        along();
        best();
        bestOfSeveral();
        lap();
        worth();
        wants();
        spend();
        where();
        drive();
        delta();
        lost();
        tyre();
        two();
        on();
        race();
        plan();
        stops();
        count();
        keep();
        make();
        element();
        copy();
        weight();
        toss();
        refusedCallsChangeNothing();
        end("PromiseTest", "all answers are as due");
    }

    private static void newObject() {
        words = "1 a new object";
        LapBoard x = new LapBoard();
        due(0, () -> x.count(0));
        due(0, () -> x.count(1));
        due(0, () -> x.count(2));
        due(0, () -> x.count(3));
        due(0, () -> x.lap());
        due(-3, () -> x.undo());
        due(0, () -> x.along(0));
        due(0, () -> x.spend(60));
        due(0, () -> x.where(60));
        due(-2, () -> x.wants());
        due(-2, () -> x.lost());
        due(0, () -> x.on(3, 39));
        due(0, () -> x.race(1));
        due(20000, () -> x.race(2));
        due(0, () -> x.worth(0, 20));
        for (int d = 0; d < 8; d++) {
            int shelf = d;
            due(-11, () -> x.weight(shelf));
        }
        LapBoard y = board(0, 10, 10);
        due(0, () -> new LapBoard().count(0));
        due(1, () -> y.count(0));
    }

    private static void station() {
        words = "2 station";
        LapBoard x = new LapBoard();
        int[] good = {0, 1, 2, 10, 11, 12, 20, 21, 22, 30, 31, 32};
        for (int i = 0; i < good.length; i++) {
            int told = good[i];
            due(i, () -> x.station(told, 1, 1));
        }
        int[] bad = {-1, -10, -30, 3, 9, 13, 19, 23, 29, 33, 39, 40, 41, 42, 100, Integer.MIN_VALUE, Integer.MAX_VALUE};
        for (int told : bad) {
            due(-1, () -> x.station(told, 1, 1));
        }
        due(-1, () -> x.station(0, 0, 1));
        due(-1, () -> x.station(0, 100, 1));
        due(-1, () -> x.station(0, -5, 1));
        due(-1, () -> x.station(0, 1, 0));
        due(-1, () -> x.station(0, 1, 61));
        due(12, () -> x.station(0, 99, 60));
        for (int i = 13; i < 30; i++) {
            int number = i;
            due(number, () -> x.station(0, 99, 60));
        }
        due(-2, () -> x.station(0, 1, 1));
        due(-1, () -> x.station(3, 1, 1));
        due(-1, () -> x.station(0, 0, 1));
        due(30, () -> x.count(0));
        due(29, () -> x.undo());
        due(29, () -> x.station(0, 1, 1));
        LapBoard y = board(12, 10, 30);
        due(24, () -> y.limit(0, 0));
        due(30, () -> y.limit(0, 2));
    }

    private static void undo() {
        words = "3 undo";
        LapBoard x = board(0, 50, 10, 10, 20, 15, 30, 7, 7);
        x.drive(2, 99);
        x.drive(1, 98);
        due(2, () -> x.undo());
        due(2, () -> x.count(0));
        due(70, () -> x.count(1));
        due(1, () -> x.count(2));
        due(2, () -> x.station(0, 50, 10));
        due(0, () -> x.drive(2, 5));
        due(2, () -> x.undo());
        due(1, () -> x.undo());
        due(0, () -> x.undo());
        due(-3, () -> x.undo());
        due(0, () -> x.lap());
        due(0, () -> x.count(2));
    }

    private static void base() {
        words = "4 base";
        LapBoard x = board(10, 50, 10, 30, 20, 15);
        due(10, () -> x.base(0, 60));
        due(60, () -> x.limit(0, 0));
        due(60, () -> x.base(0, 1));
        due(1, () -> x.limit(0, 0));
        due(15, () -> x.base(1, 15));
        due(15, () -> x.base(1, 16));
        due(-1, () -> x.base(2, 16));
        due(-1, () -> x.base(-1, 16));
        due(-1, () -> x.base(0, 0));
        due(-1, () -> x.base(0, 61));
        due(1, () -> x.base(0, 2));
    }

    private static void gear() {
        words = "5 gear";
        LapBoard x = new LapBoard();
        for (int g = 1; g <= 6; g++) {
            int gear = g;
            due(0, () -> x.gear(gear, 10 * gear, 8 - gear));
        }
        due(1, () -> x.gear(3, 31, 5));
        due(0, () -> x.gear(3, 31, 5));
        due(1, () -> x.gear(3, 31, 6));
        due(0, () -> x.gear(3, 31, 6));
        due(-1, () -> x.gear(0, 1, 1));
        due(-1, () -> x.gear(7, 1, 1));
        due(-1, () -> x.gear(1, 0, 1));
        due(-1, () -> x.gear(1, 61, 1));
        due(-1, () -> x.gear(1, 1, 0));
        due(-1, () -> x.gear(1, 1, 21));
        due(1, () -> x.gear(1, 60, 20));
        due(1, () -> x.gear(1, 1, 1));
        due(0, () -> x.gear(1, 1, 1));
    }

    private static void set() {
        words = "6 set";
        LapBoard x = new LapBoard();
        due(0, () -> x.set(0, -20));
        due(-20, () -> x.set(0, 20));
        due(20, () -> x.set(0, -1));
        due(-1, () -> x.set(0, 0));
        due(6, () -> x.set(1, 1));
        due(1, () -> x.set(1, 30));
        due(20, () -> x.set(2, 1));
        due(1, () -> x.set(2, 60));
        due(20000, () -> x.set(3, 0));
        due(0, () -> x.set(3, 100000));
        int[][] bad = {{-1, 1}, {4, 1}, {0, -21}, {0, 21}, {1, 0}, {1, 31}, {2, 0}, {2, 61}, {3, -1}, {3, 100001}};
        for (int[] a : bad) {
            due(-1000, () -> x.set(a[0], a[1]));
        }
        due(0, () -> x.set(0, 1));
        due(30, () -> x.set(1, 2));
        due(60, () -> x.set(2, 3));
        due(100000, () -> x.set(3, 4));
    }

    private static void limit() {
        words = "7 limit";
        LapBoard x = board(2, 5, 7, 10, 5, 20, 21, 5, 20, 32, 5, 20);
        int[][] want = {{60, 60, 60}, {20, 17, 14}, {13, 16, 13}, {20, 20, 20}};
        dueLimits(x, want);
        x.set(0, 20);
        dueLimits(x, new int[][] {{60, 60, 60}, {40, 37, 34}, {33, 36, 33}, {20, 20, 20}});
        x.set(0, -16);
        dueLimits(x, new int[][] {{60, 60, 60}, {4, 1, 1}, {1, 1, 1}, {20, 20, 20}});
        x.set(0, 10);
        x.base(1, 60);
        x.base(2, 54);
        // a CHICANE's 64 is held to 60 after the 4 are off
        dueLimits(x, new int[][] {{60, 60, 60}, {60, 60, 60}, {57, 60, 57}, {20, 20, 20}});
        x.base(2, 60);
        dueLimits(x, new int[][] {{60, 60, 60}, {60, 60, 60}, {60, 60, 60}, {20, 20, 20}});
        x.set(0, 0);
        x.base(2, 3);
        dueLimits(x, new int[][] {{60, 60, 60}, {60, 57, 54}, {1, 1, 1}, {20, 20, 20}});
        due(-1, () -> x.limit(4, 0));
        due(-1, () -> x.limit(-1, 0));
        due(-1, () -> x.limit(0, 3));
        due(-1, () -> x.limit(0, -1));
    }

    private static void dueLimits(LapBoard x, int[][] want) {
        for (int i = 0; i < want.length; i++) {
            for (int lane = 0; lane < 3; lane++) {
                int station = i;
                int on = lane;
                due(want[i][lane], () -> x.limit(station, on));
            }
        }
    }

    private static void reach() {
        words = "8 reach";
        LapBoard x = new LapBoard();
        int[][] want = {{1, 8}, {3, 10}, {4, 10}, {5, 11}, {10, 16}, {20, 25}, {29, 33}, {30, 34}, {50, 52}, {58, 60}, {59, 60}, {60, 60}};
        for (int[] w : want) {
            due(w[1], () -> x.reach(w[0]));
        }
        x.gear(6, 60, 20);
        due(21, () -> x.reach(1));
        due(60, () -> x.reach(45));
        for (int g = 1; g <= 6; g++) {
            x.gear(g, 10, 3);
        }
        due(10, () -> x.reach(9));
        due(10, () -> x.reach(10));
        due(4, () -> x.reach(1));
        due(33, () -> x.reach(33));
        due(-1, () -> x.reach(0));
        due(-1, () -> x.reach(61));
        due(-1, () -> x.reach(-7));
    }

    private static void shift() {
        words = "9 shift";
        LapBoard x = new LapBoard();
        int[][] want = {{1, 1}, {4, 1}, {5, 2}, {10, 2}, {20, 3}, {59, 6}, {60, 0}};
        for (int[] w : want) {
            due(w[1], () -> x.shift(w[0]));
        }
        // at 4 both GEAR 1 (to its TOP) and GEAR 2 come to 10; the least is told
        due(10, () -> x.reach(4));
        x.gear(1, 10, 5);
        due(2, () -> x.shift(4));
        for (int g = 1; g <= 6; g++) {
            x.gear(g, 10, 3);
        }
        due(1, () -> x.shift(9));
        due(0, () -> x.shift(10));
        due(0, () -> x.shift(33));
        due(-1, () -> x.shift(0));
        due(-1, () -> x.shift(61));
    }

    private static void quickest() {
        words = "10 quickest";
        LapBoard x = board(0, 50, 10, 10, 20, 15, 0, 60, 10, 30, 10, 12, 0, 10, 1);
        // START 20; LIMIT 15 of the bend; 15 + 6 next, but braking for 12: 18; the crest; 12 + 6 on
        int[] want = {20, 15, 18, 12, 18};
        for (int i = 0; i < want.length; i++) {
            int station = i;
            due(want[station], () -> x.quickest(0, station));
        }
        due(12, () -> x.quickest(1, 1));
        due(9, () -> x.quickest(2, 1));
        due(15, () -> x.quickest(2, 0));
        x.set(2, 3);
        due(3, () -> x.quickest(0, 0));
        due(10, () -> x.quickest(0, 1));
        x.set(1, 1);
        due(13, () -> x.quickest(0, 2));
        due(-1, () -> x.quickest(3, 0));
        due(-1, () -> x.quickest(-1, 0));
        due(-1, () -> x.quickest(0, 5));
        due(-1, () -> x.quickest(0, -1));
        due(-1, () -> new LapBoard().quickest(0, 0));
        // the last STATION is no neighbour of STATION 0
        LapBoard y = board(30, 5, 50, 30, 5, 1);
        due(7, () -> y.quickest(0, 0));
        due(1, () -> y.quickest(0, 1));
    }

    private static void along() {
        words = "11 along";
        LapBoard x = board(0, 50, 10, 10, 20, 15);
        due(2500 + 1333, () -> x.along(0));
        due(2777 + 1666, () -> x.along(1));
        due(3333 + 2222, () -> x.along(2));
        dueThrown(IllegalArgumentException.class, () -> x.along(-1));
        dueThrown(IllegalArgumentException.class, () -> x.along(3));
        dueThrown(IllegalArgumentException.class, () -> new LapBoard().along(3));
        due(0, () -> new LapBoard().along(2));
    }

    private static void best() {
        words = "12 best";
        LapBoard x = board(0, 50, 10, 10, 20, 15, 12, 80, 15, 2, 8, 1);
        // LANE 1 is for LANE 2 then: the change costs 2 of LENGTH, and the long bend is 3 quicker there
        int[][] want = {{1, 18, 2777}, {1, 12, 1666}, {2, 15, 5466}, {2, 20, 400}};
        for (int i = 0; i < want.length; i++) {
            for (int what = 0; what < 3; what++) {
                int station = i;
                int of = what;
                due(want[i][what], () -> x.best(station, of));
            }
        }
        due(-1, () -> x.best(4, 0));
        due(-1, () -> x.best(-1, 0));
        due(-1, () -> x.best(0, 3));
        due(-1, () -> x.best(0, -1));
        due(-1, () -> new LapBoard().best(0, 0));
        x.base(1, 60);
        x.base(2, 60);
        due(0, () -> x.best(0, 0));
        due(20, () -> x.best(0, 1));
        x.set(2, 10);
        due(10, () -> x.best(0, 1));
        x.gear(2, 60, 20);
        due(30, () -> x.best(1, 1));
        x.set(1, 1);
        due(11, () -> board(30, 9, 30, 30, 9, 5).best(0, 1));
    }

    private static void bestOfSeveral() {
        words = "12 best, of several";
        // all LANES are alike on STRAIGHTS: the least
        dueLanes(board(2, 10, 1, 1, 10, 1, 2, 10, 1), 0, 0, 0);
        // a change from LANE 0 to 1 costs the same anywhere: as late as can be; from 1 to 0: as early
        dueLanes(board(10, 99, 20, 30, 10, 20, 30, 10, 20, 11, 99, 20), 0, 0, 0, 1);
        dueLanes(board(11, 99, 20, 30, 10, 20, 30, 10, 20, 10, 99, 20), 1, 0, 0, 0);
        dueLanes(board(12, 99, 20, 30, 10, 20, 30, 10, 20, 30, 10, 20, 10, 99, 20), 2, 1, 0, 0, 0);
        dueLanes(board(10, 99, 20, 30, 10, 20, 30, 10, 20, 30, 10, 20, 12, 99, 20), 0, 0, 0, 1, 2);
        // the greatest pace goes along like any other
        LapBoard fast = board(0, 99, 1, 0, 99, 1, 0, 99, 1);
        fast.set(2, 60);
        dueLanes(fast, 0, 0, 0);
        due(99000 / 60 * 3, () -> fast.on(0, 0));
        due(0, () -> fast.worth(0, 5));
        // one unit of LENGTH at 60: the cut makes paces alike, and the lesser LANE is taken
        LapBoard z = board(12, 1, 60, 12, 1, 60);
        z.set(2, 60);
        due(54, () -> z.limit(0, 0));
        due(2, () -> z.best(0, 0));
        due(16, () -> z.best(0, 2));
        LapBoard w = board(11, 1, 59);
        w.set(2, 60);
        // 56 and 59 paces: 17 and 16; BASE 60 and LANE 0: 57: 17
        due(1, () -> w.best(0, 0));
        w.set(0, 4);
        due(0, () -> w.best(0, 0));
        due(60, () -> w.best(0, 1));
        w.set(0, 3);
        due(59, () -> w.best(0, 1) + w.best(0, 0));
    }

    private static void lap() {
        words = "13 lap";
        LapBoard x = board(0, 50, 10, 10, 20, 15, 12, 80, 15, 2, 8, 1);
        due(2777 + 1666 + 5466 + 400, () -> x.lap());
        due(0, () -> new LapBoard().lap());
        due(99000 / 20, () -> board(0, 99, 1).lap());
        LapBoard y = board(0, 99, 1, 30, 99, 1);
        due(99000 / 7 + 99000, () -> y.lap());
        y.undo();
        due(99000 / 20, () -> y.lap());
        y.set(2, 60);
        due(99000 / 60, () -> y.lap());
        y.station(30, 99, 1);
        y.set(1, 30);
        due(99000 / 31 + 99000, () -> y.lap());
        y.base(1, 2);
        due(99000 / 32 + 99000 / 2, () -> y.lap());
    }

    private static void worth() {
        words = "14 worth";
        LapBoard x = board(10, 90, 15, 30, 99, 1);
        due(90000 / 7 + 99000, () -> x.lap());
        due(90000 / 7 - 90000 / 11, () -> x.worth(1, 10));
        due(90000 / 7 - 90000 / 2, () -> x.worth(1, 1));
        due(0, () -> x.worth(1, 6));
        due(90000 / 7 - 90000 / 5, () -> x.worth(2, 5));
        due(0, () -> x.worth(2, 60));
        due(0, () -> x.worth(0, 20));
        due(90000 / 7 - 90000 / 5, () -> x.worth(0, -10));
        due(90000 / 7 + 99000, () -> x.lap());
        due(7, () -> x.best(0, 1));
        int[][] bad = {{-1, 1}, {3, 1}, {3, 20000}, {4, 1}, {0, -21}, {0, 21}, {1, 0}, {1, 31}, {2, 0}, {2, 61}};
        for (int[] a : bad) {
            dueThrown(IllegalArgumentException.class, () -> x.worth(a[0], a[1]));
        }
        due(0, () -> x.set(0, 0));
        due(6, () -> x.set(1, 6));
        due(20, () -> x.set(2, 20));
    }

    private static void wants() {
        words = "15 wants";
        due(-2, () -> new LapBoard().wants());
        due(-2, () -> board(0, 50, 10).wants());
        due(-2, () -> board(30, 50, 60).wants());
        LapBoard x = board(30, 50, 15, 30, 60, 15, 30, 40, 15);
        due(1, () -> x.wants());
        due(15, () -> x.base(1, 15));
        due(1, () -> x.wants());
        // of several the least
        due(0, () -> board(30, 60, 15, 30, 60, 15, 30, 60, 15).wants());
        // one that another one's BASE holds back wants nothing
        due(1, () -> board(30, 60, 30, 30, 99, 1).wants());
        due(0, () -> board(10, 60, 15, 30, 60, 60).wants());
        // GRIP may hold a bend of BASE 60 below 60: its BASE is no more than 60 all the same
        LapBoard y = board(10, 60, 60);
        y.set(2, 60);
        y.set(0, -10);
        due(50, () -> y.limit(0, 0));
        due(-2, () -> y.wants());
        y.base(0, 59);
        due(0, () -> y.wants());
        due(59, () -> y.base(0, 59));
    }

    /** Three STATIONS at pace 20 all: GAINS of 195, 95 and 245 for 4, 2 and 5 units. */
    private static LapBoard spender() {
        LapBoard x = board(30, 39, 20, 30, 19, 20, 30, 49, 20);
        x.set(2, 20);
        return x;
    }

    private static void spend() {
        words = "16 spend";
        LapBoard x = spender();
        due(1950, () -> x.best(0, 2));
        int[][] want = {{0, 0}, {1, 0}, {2, 95}, {3, 95}, {4, 195}, {5, 245}, {6, 290}, {7, 340}, {8, 340}, {9, 440}, {10, 440}, {11, 535}, {60, 535}};
        for (int[] w : want) {
            due(w[1], () -> x.spend(w[0]));
        }
        due(-1, () -> x.spend(-1));
        due(-1, () -> x.spend(61));
        // LENGTH 10 costs 2, LENGTH 9 costs 1; the tenth is cut
        LapBoard y = board(30, 10, 17, 30, 9, 17);
        due(52, () -> y.spend(1));
        due(58, () -> y.spend(2));
        due(110, () -> y.spend(3));
        due(0, () -> new LapBoard().spend(0));
    }

    private static void where() {
        words = "17 where";
        LapBoard x = spender();
        int[][] want = {{0, 0}, {1, 0}, {2, 2}, {4, 1}, {5, 4}, {6, 3}, {7, 6}, {8, 6}, {9, 5}, {10, 5}, {11, 7}, {60, 7}};
        for (int[] w : want) {
            due(w[1], () -> x.where(w[0]));
        }
        due(-1, () -> x.where(-1));
        due(-1, () -> x.where(61));
        // of several the least number
        LapBoard y = board(30, 19, 20, 30, 19, 20, 30, 19, 20, 30, 19, 20);
        due(1, () -> y.where(2));
        due(3, () -> y.where(5));
        due(7, () -> y.where(6));
        LapBoard z = new LapBoard();
        for (int i = 0; i < 30; i++) {
            z.station(30, 19, 20);
        }
        due((1 << 30) - 1, () -> z.where(60));
        due((1 << 29) - 1, () -> z.where(59));
        due(0, () -> new LapBoard().where(60));
    }

    private static void drive() {
        words = "18 drive";
        LapBoard x = board(0, 10, 10, 0, 10, 10);
        due(0, () -> x.drive(0, 1));
        due(1, () -> x.drive(0, 200000));
        due(200000, () -> x.drive(0, 0));
        due(0, () -> x.drive(0, 7));
        due(0, () -> x.drive(1, 0));
        due(-1, () -> x.drive(2, 1));
        due(-1, () -> x.drive(-1, 1));
        due(-1, () -> x.drive(0, -1));
        due(-1, () -> x.drive(0, 200001));
        due(7, () -> x.drive(0, 8));
    }

    private static void delta() {
        words = "19 delta";
        LapBoard x = board(0, 20, 10, 0, 26, 10);
        due(0, () -> x.delta(0));
        x.drive(0, 1500);
        due(500, () -> x.delta(0));
        x.drive(0, 1);
        due(-999, () -> x.delta(0));
        x.drive(0, 200000);
        due(199000, () -> x.delta(0));
        due(0, () -> x.delta(1));
        x.set(2, 10);
        due(198000, () -> x.delta(0));
        x.drive(0, 0);
        due(0, () -> x.delta(0));
        dueThrown(IllegalArgumentException.class, () -> x.delta(2));
        dueThrown(IllegalArgumentException.class, () -> x.delta(-1));
        dueThrown(IllegalArgumentException.class, () -> new LapBoard().delta(0));
    }

    private static void lost() {
        words = "20 lost";
        LapBoard x = board(30, 20, 20, 30, 40, 20, 30, 60, 20, 30, 20, 20);
        due(-2, () -> x.lost());
        x.drive(3, 1);
        due(3, () -> x.lost());
        x.drive(3, 10);
        due(3, () -> x.lost());
        x.drive(1, 1005);
        due(3, () -> x.lost());
        x.drive(1, 1200);
        due(1, () -> x.lost());
        x.drive(2, 3500);
        due(2, () -> x.lost());
        x.drive(0, 1500);
        due(0, () -> x.lost());
        x.drive(0, 0);
        x.drive(2, 0);
        x.drive(1, 0);
        x.drive(3, 0);
        due(-2, () -> x.lost());
    }

    private static void tyre() {
        words = "21 tyre";
        LapBoard x = new LapBoard();
        for (int t = 0; t < 4; t++) {
            int tyre = t;
            due(0, () -> x.tyre(tyre, 0, 5));
        }
        due(1, () -> x.tyre(0, -20, 5));
        due(0, () -> x.tyre(0, -20, 5));
        due(1, () -> x.tyre(0, -20, 1));
        due(1, () -> x.tyre(3, 20, 20));
        due(0, () -> x.tyre(3, 20, 20));
        int[][] bad = {{-1, 0, 5}, {4, 0, 5}, {0, -21, 5}, {0, 21, 5}, {0, 0, 0}, {0, 0, 21}};
        for (int[] a : bad) {
            due(-1, () -> x.tyre(a[0], a[1], a[2]));
        }
        due(0, () -> x.tyre(0, -20, 1));
    }

    private static void two() {
        words = "22 two";
        LapBoard x = new LapBoard();
        due(1, () -> x.two(true) ? 1 : 0);
        due(1, () -> x.two(false) ? 1 : 0);
        due(0, () -> x.two(false) ? 1 : 0);
        due(0, () -> x.two(true) ? 1 : 0);
        due(20000, () -> x.race(2));
        x.two(false);
        due(0, () -> x.race(2));
    }

    private static void on() {
        words = "23 on";
        LapBoard x = board(10, 60, 30);
        x.set(2, 60);
        due(2000, () -> x.on(0, 0));
        due(2000, () -> x.on(0, 4));
        due(60000 / 29, () -> x.on(0, 5));
        due(60000 / 23, () -> x.on(0, 39));
        x.tyre(1, -18, 1);
        due(60000 / 11, () -> x.on(1, 1));
        due(6000, () -> x.on(1, 2));
        due(6000, () -> x.on(1, 3));
        due(6000, () -> x.on(1, 39));
        // GRIP as it was told does not matter
        x.set(0, 20);
        due(2000, () -> x.on(0, 0));
        due(1200, () -> x.lap());
        x.tyre(0, 20, 20);
        due(1200, () -> x.on(0, 19));
        due(60000 / 49, () -> x.on(0, 20));
        x.base(0, 10);
        due(2000, () -> x.on(0, 0));
        dueThrown(IllegalArgumentException.class, () -> x.on(-1, 0));
        dueThrown(IllegalArgumentException.class, () -> x.on(4, 0));
        dueThrown(IllegalArgumentException.class, () -> x.on(0, -1));
        dueThrown(IllegalArgumentException.class, () -> x.on(0, 40));
    }

    /** One bend: a lap takes 60000 by 30 and the GRIP of the tyre. */
    private static LapBoard racer() {
        LapBoard x = board(10, 60, 30);
        x.set(2, 60);
        x.tyre(0, 0, 1);
        x.tyre(1, -5, 20);
        x.tyre(2, -20, 1);
        x.tyre(3, -20, 1);
        return x;
    }

    private static void race() {
        words = "24 race";
        LapBoard x = racer();
        due(2000, () -> x.race(1));
        due(2000 + 20000 + 2400, () -> x.race(2));
        due(2000 + 2068 + 20000 + 2400, () -> x.race(3));
        x.set(3, 10);
        due(2000 + 10 + 2000 + 10 + 2400, () -> x.race(3));
        x.two(false);
        due(2000 + 10 + 2000 + 10 + 2000, () -> x.race(3));
        x.set(3, 100000);
        due(2400 * 20 + 2500 * 20, () -> x.race(40));
        x.base(0, 60);
        due(1000, () -> x.race(1));
        dueThrown(IllegalArgumentException.class, () -> x.race(0));
        dueThrown(IllegalArgumentException.class, () -> x.race(41));
        dueThrown(IllegalArgumentException.class, () -> x.race(-1));
        // kinds are unlike by number, however alike they are
        LapBoard y = board(10, 60, 30);
        y.set(2, 60);
        due(2000 + 20000 + 2000, () -> y.race(2));
    }

    private static void plan() {
        words = "25 plan";
        LapBoard x = racer();
        duePlan(x, 1, new int[][] {{0, 0, 0}});
        duePlan(x, 3, new int[][] {{0, 0, 0}, {0, 0, 1}, {1, 1, 0}});
        x.set(3, 10);
        duePlan(x, 3, new int[][] {{0, 0, 0}, {0, 1, 0}, {1, 1, 0}});
        x.two(false);
        duePlan(x, 3, new int[][] {{0, 0, 0}, {0, 1, 0}, {0, 1, 0}});
        // once two kinds have been on, the second may come again and again
        LapBoard z = racer();
        z.tyre(0, -5, 1);
        z.tyre(1, 0, 1);
        z.set(3, 10);
        duePlan(z, 3, new int[][] {{0, 0, 0}, {1, 1, 0}, {1, 1, 0}});
        duePlan(z, 4, new int[][] {{0, 0, 0}, {1, 1, 0}, {1, 1, 0}, {1, 1, 0}});
        // of several: going on as long as it may, then the lesser kind
        LapBoard y = board(0, 60, 30);
        y.set(3, 0);
        duePlan(y, 4, new int[][] {{0, 0, 0}, {0, 0, 1}, {0, 0, 2}, {1, 1, 0}});
        y.two(false);
        duePlan(y, 4, new int[][] {{0, 0, 0}, {0, 0, 1}, {0, 0, 2}, {0, 0, 3}});
        int[][] bad = {{0, 0, 0}, {41, 0, 0}, {4, 4, 0}, {4, -1, 0}, {4, 0, 3}, {4, 0, -1}, {-1, 0, 0}};
        for (int[] a : bad) {
            due(-1, () -> y.plan(a[0], a[1], a[2]));
        }
        due(39, () -> y.plan(40, 39, 2));
        y.set(0, 7);
        due(39, () -> y.plan(40, 39, 2));
    }

    private static void stops() {
        words = "26 stops";
        LapBoard x = racer();
        due(0, () -> x.stops(1));
        due(1, () -> x.stops(2));
        x.set(3, 10);
        due(2, () -> x.stops(3));
        due(3, () -> x.stops(4));
        x.two(false);
        x.set(3, 100000);
        due(0, () -> x.stops(40));
        due(-1, () -> x.stops(0));
        due(-1, () -> x.stops(41));
    }

    private static void count() {
        words = "27 count";
        LapBoard x = board(10, 20, 30, 0, 30, 30, 12, 99, 30);
        due(3, () -> x.count(0));
        due(149, () -> x.count(1));
        x.drive(0, 5);
        x.drive(2, 5);
        due(2, () -> x.count(2));
        x.drive(2, 0);
        due(1, () -> x.count(2));
        x.base(0, 8);
        x.base(2, 8);
        due(2, () -> x.best(2, 0));
        due(2, () -> x.count(3) + x.best(0, 0));
        x.base(0, 60);
        x.base(2, 60);
        due(0, () -> x.count(3));
        due(-1, () -> x.count(-1));
        due(-1, () -> x.count(4));
    }

    private static void keep() {
        words = "28 keep";
        LapBoard x = board(10, 20, 15, 12, 30, 15);
        due(0, () -> x.keep(0, 1, 1));
        due(155, () -> x.weight(0));
        x.base(1, 16);
        due(155, () -> x.weight(0));
        x.undo();
        due(155, () -> x.weight(0));
        due(-1, () -> x.keep(0, 1, 1));
        due(155, () -> x.weight(0));
        x.station(12, 30, 15);
        due(0, () -> x.keep(1, 3, 99));
        due(x.best(0, 1), () -> x.element(1, 0));
        due(x.best(1, 1), () -> x.element(1, 1));
        due(0, () -> x.keep(2, 4, 2));
        due(9, () -> x.element(2, 0));
        due(15, () -> x.element(2, 1));
        x.set(2, 1);
        due(9, () -> x.element(2, 0));
        due(-1, () -> x.keep(2, 4, 3));
        due(-1, () -> x.keep(2, 4, -1));
        due(9, () -> x.element(2, 0));
        due(0, () -> x.keep(2, 0, -5));
        due(-11, () -> x.weight(2));
        int[][] bad = {{-1, 0, 0}, {8, 0, 0}, {0, 2, 0}, {0, 5, 0}, {0, -1, 0}, {0, 1, -1}, {0, 1, 2}, {8, 3, 0}};
        for (int[] a : bad) {
            due(-1, () -> x.keep(a[0], a[1], a[2]));
        }
        due(155, () -> x.weight(0));
        LapBoard y = new LapBoard();
        due(0, () -> y.keep(7, 3, 0));
        due(-12, () -> y.weight(7));
        dueThrown(IllegalStateException.class, () -> y.element(7, 0));
        due(0, () -> y.keep(6, 4, 0));
        due(-12, () -> y.copy(6, 0, 7, 0, 0));
    }

    private static void make() {
        words = "29 make";
        LapBoard x = board(10, 20, 15, 12, 30, 15);
        x.keep(0, 3, 0);
        due(0, () -> x.make(0, 3, 60));
        for (int i = 0; i < 60; i++) {
            int place = i;
            due(0, () -> x.element(0, place));
        }
        dueThrown(IllegalStateException.class, () -> x.element(0, 60));
        due(0, () -> x.make(1, 4, 0));
        dueThrown(IllegalStateException.class, () -> x.element(1, 0));
        due(-14, () -> x.make(0, 3, -1));
        due(-14, () -> x.make(0, 4, Integer.MIN_VALUE));
        int[][] bad = {{-1, 3, 5}, {8, 3, 5}, {0, 2, 5}, {0, 5, 5}, {0, 0, 5}, {0, 1, 5}, {0, 3, 61}, {8, 3, -1}, {0, 5, -1}, {0, 4, Integer.MAX_VALUE}};
        for (int[] a : bad) {
            due(-1, () -> x.make(a[0], a[1], a[2]));
        }
        due(0, () -> x.element(0, 59));
        due(-12, () -> x.copy(0, 0, 1, 0, 0));
    }

    private static void element() {
        words = "30 element";
        LapBoard x = board(30, 20, 15, 30, 30, 12);
        x.keep(0, 3, 0);
        x.keep(1, 4, 0);
        x.keep(2, 1, 0);
        due(15, () -> x.element(0, 0));
        due(12, () -> x.element(0, 1));
        due(15, () -> x.element(1, 0));
        due(12, () -> x.element(1, 1));
        dueThrown(IllegalArgumentException.class, () -> x.element(-1, 0));
        dueThrown(IllegalArgumentException.class, () -> x.element(8, 0));
        dueThrown(IllegalArgumentException.class, () -> x.element(8, -1));
        dueThrown(IllegalStateException.class, () -> x.element(0, 2));
        dueThrown(IllegalStateException.class, () -> x.element(0, -1));
        dueThrown(IllegalStateException.class, () -> x.element(1, 2));
        dueThrown(IllegalStateException.class, () -> x.element(2, 0));
        dueThrown(IllegalStateException.class, () -> x.element(3, 0));
    }

    /** SHELVES 0 and 1: ints and bytes 10, 16, 21; 2: a STATION; 3: ints; 4: bytes. */
    private static LapBoard copier() {
        LapBoard x = board(30, 20, 10, 30, 30, 16, 0, 10, 1);
        x.keep(0, 3, 0);
        x.keep(1, 4, 0);
        x.keep(2, 1, 0);
        x.make(3, 3, 5);
        x.make(4, 4, 5);
        return x;
    }

    private static void copy() {
        words = "31 copy";
        LapBoard x = copier();
        due(2, () -> x.copy(0, 1, 3, 3, 2));
        dueRow(x, 3, 0, 0, 0, 16, 21);
        dueRow(x, 0, 10, 16, 21);
        due(3, () -> x.copy(1, 0, 4, 1, 3));
        dueRow(x, 4, 0, 10, 16, 21, 0);
        due(4, () -> x.copy(4, 0, 4, 1, 4));
        dueRow(x, 4, 0, 0, 10, 16, 21);
        due(3, () -> x.copy(4, 2, 4, 0, 3));
        dueRow(x, 4, 10, 16, 21, 16, 21);
        due(2, () -> x.copy(0, 0, 0, 1, 2));
        dueRow(x, 0, 10, 10, 16);
        due(0, () -> x.copy(0, 3, 3, 5, 0));
        due(0, () -> x.copy(0, 0, 3, 0, 0));
        due(-13, () -> x.copy(0, 4, 3, 0, 0));
        due(-13, () -> x.copy(0, 0, 3, 6, 0));
        due(-13, () -> x.copy(0, 2, 3, 0, 2));
        due(-13, () -> x.copy(0, 0, 3, 4, 2));
        due(-13, () -> x.copy(0, -1, 3, 0, 1));
        due(-13, () -> x.copy(0, 0, 3, -1, 1));
        due(-13, () -> x.copy(0, 0, 3, 0, -1));
        due(-13, () -> x.copy(0, Integer.MAX_VALUE, 3, 0, Integer.MAX_VALUE));
        due(-13, () -> x.copy(0, 1, 3, 1, Integer.MAX_VALUE));
        due(-13, () -> x.copy(0, Integer.MIN_VALUE, 3, 0, Integer.MIN_VALUE));
        due(-12, () -> x.copy(0, 0, 4, 0, 1));
        due(-12, () -> x.copy(2, 0, 0, 0, 1));
        due(-12, () -> x.copy(0, 0, 2, 0, 1));
        due(-12, () -> x.copy(2, 0, 2, 0, -1));
        due(-11, () -> x.copy(2, 0, 5, 0, 1));
        due(-11, () -> x.copy(5, 0, 2, 0, -1));
        due(-11, () -> x.copy(5, 0, 6, 0, 1));
        due(-1, () -> x.copy(-1, 0, 5, 0, 1));
        due(-1, () -> x.copy(5, 0, 8, 0, -1));
        dueRow(x, 0, 10, 10, 16);
    }

    private static void weight() {
        words = "32 weight";
        LapBoard x = copier();
        int[][] want = {{0, 30, 9, 40}, {2, 30, 9, 40}, {12, 30, 9, 149}, {10, 99, 60, 269}, {20, 30, 9, 298},
            {22, 1, 1, 224}, {30, 30, 9, 40}, {31, 30, 9, 41}, {32, 99, 60, 111}};
        for (int[] w : want) {
            int number = x.station(w[0], w[1], w[2]);
            x.keep(7, 1, number);
            due(w[3], () -> x.weight(7));
        }
        due(-1, () -> x.weight(-1));
        due(-1, () -> x.weight(8));
        due(-11, () -> x.weight(5));
        due(-12, () -> x.weight(0));
        due(-12, () -> x.weight(1));
    }

    private static void toss() {
        words = "33 toss";
        LapBoard x = copier();
        int[][] want = {{0, -15}, {2, -15}, {10, 0}, {11, 1}, {12, 2}, {20, 0}, {21, 1}, {22, 2}, {30, -15}, {32, -15}};
        for (int[] w : want) {
            int number = x.station(w[0], 9, 9);
            x.keep(7, 1, number);
            due(w[1], () -> x.toss(7));
            due(w[1], () -> x.toss(7));
        }
        due(-1, () -> x.toss(-1));
        due(-1, () -> x.toss(8));
        due(-11, () -> x.toss(5));
        due(-12, () -> x.toss(0));
        due(-12, () -> x.toss(1));
    }

    private static void refusedCallsChangeNothing() {
        words = "a refused call changes nothing";
        LapBoard x = copier();
        x.drive(1, 500);
        long lap = x.lap();
        x.station(9, 9, 9);
        x.base(0, 99);
        x.base(9, 9);
        x.gear(1, 61, 20);
        x.gear(1, 60, 21);
        x.set(0, 21);
        x.set(1, 31);
        x.drive(1, -1);
        x.tyre(0, 20, 21);
        x.make(0, 3, -1);
        x.make(0, 3, 61);
        x.keep(0, 4, 3);
        x.copy(0, 0, 3, 4, 2);
        due(lap, () -> x.lap());
        due(lap, () -> x.on(0, 0));
        due(3, () -> x.count(0));
        due(500, () -> x.drive(1, 1));
        dueRow(x, 0, 10, 16, 21);
        dueRow(x, 3, 0, 0, 0, 0, 0);
    }
}
