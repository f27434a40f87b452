import java.util.ArrayList;
import java.util.Arrays;
import java.util.List;
import java.util.Random;
import java.util.concurrent.atomic.AtomicInteger;
import java.util.stream.IntStream;

/** Random runs of calls, each answer held beside that of a slow model that follows the document's words. */
public final class ModelTest {
    private static final AtomicInteger WRONG = new AtomicInteger();
    private static final long IAE = Long.MIN_VALUE + 1;
    private static final long ISE = Long.MIN_VALUE + 2;

    public static void main(String[] args) {
        // each run has a board of its own, so that they may go side by side
        IntStream.range(0, 552).parallel().forEach(ModelTest::runSeed);
        int wrong = WRONG.get();
        System.out.println(wrong == 0 ? "ModelTest: all answers are as the model's" : "ModelTest: " + wrong + " wrong");
        if (wrong != 0) {
            System.exit(1);
        }
    }

    /** The dear runs, of large tracks and long races, stand far apart in the order. */
    private static void runSeed(int order) {
        int seed = order % 46 == 0 ? 540 + order / 46 : order - order / 46 - 1;
        if (seed < 500) {
            run(seed, 150, 4, 5);
        } else if (seed < 540) {
            run(seed, 250, 9, 40);
        } else {
            run(seed, 512, 30, 40);
        }
    }

    private static void run(int seed, int calls, int mostStations, int mostLaps) {
        Random random = new Random(seed);
        LapBoard board = new LapBoard();
        Model model = new Model();
        List<String> told = new ArrayList<>();
        for (int i = 0; i < calls; i++) {
            int which = random.nextInt(46);
            if (which >= 32) {
                which = which < 41 && model.n() < mostStations ? 0 : 32;
            }
            if (which == 0 && model.n() >= mostStations && mostStations < 30) {
                continue;
            }
            if (which == 1 && random.nextInt(3) > 0) {
                continue;
            }
            int[] a = arguments(which, random, model, mostLaps);
            long due = model.call(which, a);
            long got = call(board, which, a);
            told.add(which + Arrays.toString(a) + " -> " + got);
            if (due != got) {
                WRONG.incrementAndGet();
                System.out.println("seed " + seed + ", call " + i + ": " + NAMES[which] + Arrays.toString(a)
                        + " answered " + got + ", due is " + due);
                return;
            }
        }
    }

    private static final String[] NAMES = {"station", "undo", "base", "gear", "set", "limit", "reach", "shift",
        "quickest", "along", "best", "lap", "worth", "wants", "spend", "where", "drive", "delta", "lost", "tyre",
        "two", "on", "race", "plan", "stops", "count", "keep", "make", "element", "copy", "weight", "toss", "lap"};

    /** A number between two, now and then one beside them or far off. */
    private static int near(Random random, int least, int most) {
        int dice = random.nextInt(40);
        if (dice == 0) {
            return least - 1;
        }
        if (dice == 1) {
            return most + 1;
        }
        if (dice == 2) {
            return random.nextBoolean() ? Integer.MIN_VALUE : Integer.MAX_VALUE;
        }
        if (dice == 3) {
            return random.nextInt();
        }
        if (dice == 4) {
            return most;
        }
        if (dice == 5) {
            return least;
        }
        return most < least ? least : least + random.nextInt(most - least + 1);
    }

    private static int[] arguments(int which, Random r, Model m, int mostLaps) {
        int last = m.n() - 1;
        switch (which) {
            case 0: {
                int kind = near(r, 0, 3);
                int told = kind >= -1 && kind <= 4 ? 10 * kind + near(r, 0, 2) : kind;
                return new int[] {told, near(r, 1, 99), near(r, 1, r.nextInt(60) + 1)};
            }
            case 2:
                return new int[] {near(r, 0, last), near(r, 1, 60)};
            case 3:
                return new int[] {near(r, 1, 6), near(r, 1, 60), near(r, 1, 20)};
            case 4:
            case 12: {
                int what = near(r, 0, 3);
                int[] least = {-20, 1, 1, 0};
                int[] most = {20, 30, 60, 100000};
                if (what == 3 && r.nextBoolean()) {
                    return new int[] {3, r.nextInt(2000)};
                }
                return new int[] {what, what >= 0 && what <= 3 ? near(r, least[what], most[what]) : 1};
            }
            case 5:
                return new int[] {near(r, 0, last), near(r, 0, 2)};
            case 6:
            case 7:
                return new int[] {near(r, 1, 60)};
            case 8:
                return new int[] {near(r, 0, 2), near(r, 0, last)};
            case 9:
                return new int[] {near(r, 0, 2)};
            case 10:
                return new int[] {near(r, 0, last), near(r, 0, 2)};
            case 14:
            case 15:
                return new int[] {near(r, 0, 60)};
            case 16:
                return new int[] {near(r, 0, last), r.nextInt(4) == 0 ? 0 : near(r, 1, r.nextBoolean() ? 200000 : 3000)};
            case 17:
                return new int[] {near(r, 0, last)};
            case 19:
                return new int[] {near(r, 0, 3), near(r, -20, 20), near(r, 1, r.nextBoolean() ? 20 : 3)};
            case 20:
                return new int[] {r.nextInt(2)};
            case 21:
                return new int[] {near(r, 0, 3), near(r, 0, 39)};
            case 22:
            case 24:
                return new int[] {lapsOf(r, mostLaps)};
            case 23: {
                int laps = lapsOf(r, mostLaps);
                return new int[] {laps, near(r, 0, Math.max(0, Math.min(39, laps - 1))), near(r, 0, 2)};
            }
            case 25:
                return new int[] {near(r, 0, 3)};
            case 26: {
                int what = near(r, 0, 4);
                return new int[] {near(r, 0, 7), what, what == 1 ? near(r, 0, last) : near(r, 0, 2)};
            }
            case 27:
                return new int[] {near(r, 0, 7), r.nextInt(5) == 0 ? near(r, 0, 5) : 3 + r.nextInt(2), near(r, 0, r.nextBoolean() ? 60 : 6)};
            case 28:
                return new int[] {near(r, 0, 7), near(r, 0, r.nextBoolean() ? last : 5)};
            case 29:
                return new int[] {near(r, 0, 7), near(r, 0, 4), near(r, 0, 7), near(r, 0, 4), near(r, 0, 6)};
            case 30:
            case 31:
                return new int[] {near(r, 0, 7)};
            default:
                return new int[0];
        }
    }

    /** More laps than the model can weigh are asked only where they are refused. */
    private static int lapsOf(Random r, int mostLaps) {
        int laps = near(r, 1, mostLaps);
        return laps > mostLaps && laps <= 40 ? mostLaps : laps;
    }

    private static long call(LapBoard b, int which, int[] a) {
        try {
            switch (which) {
                case 0: return b.station(a[0], a[1], a[2]);
                case 1: return b.undo();
                case 2: return b.base(a[0], a[1]);
                case 3: return b.gear(a[0], a[1], a[2]);
                case 4: return b.set(a[0], a[1]);
                case 5: return b.limit(a[0], a[1]);
                case 6: return b.reach(a[0]);
                case 7: return b.shift(a[0]);
                case 8: return b.quickest(a[0], a[1]);
                case 9: return b.along(a[0]);
                case 10: return b.best(a[0], a[1]);
                case 12: return b.worth(a[0], a[1]);
                case 13: return b.wants();
                case 14: return b.spend(a[0]);
                case 15: return b.where(a[0]);
                case 16: return b.drive(a[0], a[1]);
                case 17: return b.delta(a[0]);
                case 18: return b.lost();
                case 19: return b.tyre(a[0], a[1], a[2]);
                case 20: return b.two(a[0] == 1) ? 1 : 0;
                case 21: return b.on(a[0], a[1]);
                case 22: return b.race(a[0]);
                case 23: return b.plan(a[0], a[1], a[2]);
                case 24: return b.stops(a[0]);
                case 25: return b.count(a[0]);
                case 26: return b.keep(a[0], a[1], a[2]);
                case 27: return b.make(a[0], a[1], a[2]);
                case 28: return b.element(a[0], a[1]);
                case 29: return b.copy(a[0], a[1], a[2], a[3], a[4]);
                case 30: return b.weight(a[0]);
                case 31: return b.toss(a[0]);
                default: return b.lap();
            }
        } catch (IllegalArgumentException e) {
            return e.getClass() == IllegalArgumentException.class ? IAE : -77;
        } catch (IllegalStateException e) {
            return e.getClass() == IllegalStateException.class ? ISE : -77;
        }
    }

    /** A best way: its total and its lanes as digits. */
    private static final class Found {
        final long total;
        final String lanes;

        Found(long total, String lanes) {
            this.total = total;
            this.lanes = lanes;
        }

        boolean before(Found other) {
            return other == null || total < other.total || total == other.total && lanes.compareTo(other.lanes) < 0;
        }
    }

    private static final class Model {
        final List<int[]> stations = new ArrayList<>(); // kind, line, length, base, told
        int grip = 0;
        int brake = 6;
        int start = 20;
        int stop = 20000;
        boolean two = true;
        final int[] top = {0, 10, 20, 30, 40, 50, 60};
        final int[] pull = {0, 7, 6, 5, 4, 3, 2};
        final int[] tyreGrip = new int[4];
        final int[] tyreLaps = {5, 5, 5, 5};
        final Object[] shelves = new Object[8];

        int n() {
            return stations.size();
        }

        private boolean in(int x, int least, int most) {
            return least <= x && x <= most;
        }

        private boolean st(int i) {
            return in(i, 0, n() - 1);
        }

        long call(int which, int[] a) {
            switch (which) {
                case 0:
                    if (!Arrays.asList(0, 1, 2, 10, 11, 12, 20, 21, 22, 30, 31, 32).contains(a[0])
                            || !in(a[1], 1, 99) || !in(a[2], 1, 60)) {
                        return -1;
                    }
                    if (n() == 30) {
                        return -2;
                    }
                    stations.add(new int[] {a[0] / 10, a[0] % 10, a[1], a[2], 0});
                    return n() - 1;
                case 1:
                    if (n() == 0) {
                        return -3;
                    }
                    stations.remove(n() - 1);
                    return n();
                case 2: {
                    if (!st(a[0]) || !in(a[1], 1, 60)) {
                        return -1;
                    }
                    int old = stations.get(a[0])[3];
                    stations.get(a[0])[3] = a[1];
                    return old;
                }
                case 3: {
                    if (!in(a[0], 1, 6) || !in(a[1], 1, 60) || !in(a[2], 1, 20)) {
                        return -1;
                    }
                    boolean same = top[a[0]] == a[1] && pull[a[0]] == a[2];
                    top[a[0]] = a[1];
                    pull[a[0]] = a[2];
                    return same ? 0 : 1;
                }
                case 4:
                    return set(a[0], a[1]);
                case 5:
                    return st(a[0]) && in(a[1], 0, 2) ? limit(a[0], a[1], grip) : -1;
                case 6:
                    return in(a[0], 1, 60) ? reach(a[0]) : -1;
                case 7:
                    return in(a[0], 1, 60) ? shift(a[0]) : -1;
                case 8:
                    return in(a[0], 0, 2) && st(a[1]) ? paces(steady(a[0]), grip, brake, start)[a[1]] : -1;
                case 9:
                    return in(a[0], 0, 2) ? time(steady(a[0]), paces(steady(a[0]), grip, brake, start)) : IAE;
                case 10:
                    return st(a[0]) && in(a[1], 0, 2) ? best(a[0], a[1]) : -1;
                case 12:
                    return worth(a[0], a[1]);
                case 13:
                    return wants();
                case 14:
                    return in(a[0], 0, 60) ? spending(a[0])[0] : -1;
                case 15:
                    return in(a[0], 0, 60) ? spending(a[0])[1] : -1;
                case 16: {
                    if (!st(a[0]) || !in(a[1], 0, 200000)) {
                        return -1;
                    }
                    int old = stations.get(a[0])[4];
                    stations.get(a[0])[4] = a[1];
                    return old;
                }
                case 17:
                    return st(a[0]) ? delta(a[0]) : IAE;
                case 18: {
                    int lost = -2;
                    for (int i = n() - 1; i >= 0; i--) {
                        if (stations.get(i)[4] != 0 && (lost == -2 || delta(i) >= delta(lost))) {
                            lost = i;
                        }
                    }
                    return lost;
                }
                case 19: {
                    if (!in(a[0], 0, 3) || !in(a[1], -20, 20) || !in(a[2], 1, 20)) {
                        return -1;
                    }
                    boolean same = tyreGrip[a[0]] == a[1] && tyreLaps[a[0]] == a[2];
                    tyreGrip[a[0]] = a[1];
                    tyreLaps[a[0]] = a[2];
                    return same ? 0 : 1;
                }
                case 20: {
                    boolean old = two;
                    two = a[0] == 1;
                    return old ? 1 : 0;
                }
                case 21:
                    return in(a[0], 0, 3) && in(a[1], 0, 39) ? on(a[0], a[1]) : IAE;
                case 22:
                    return in(a[0], 1, 40) ? plan(a[0]).total : IAE;
                case 23:
                    return in(a[0], 1, 40) && in(a[1], 0, a[0] - 1) && in(a[2], 0, 2) ? told(plan(a[0]).lanes, a[1], a[2]) : -1;
                case 24:
                    return in(a[0], 1, 40) ? plan(a[0]).lanes.substring(1).replace("0", "").length() : -1;
                case 25:
                    return count(a[0]);
                case 26:
                    return keep(a[0], a[1], a[2]);
                case 27:
                    if (!in(a[0], 0, 7) || !in(a[1], 3, 4) || a[2] > 60) {
                        return -1;
                    }
                    if (a[2] < 0) {
                        return -14;
                    }
                    shelves[a[0]] = a[1] == 3 ? (Object) new int[a[2]] : (Object) new byte[a[2]];
                    return 0;
                case 28:
                    return element(a[0], a[1]);
                case 29:
                    return copy(a[0], a[1], a[2], a[3], a[4]);
                case 30:
                    return weight(a[0]);
                case 31:
                    return toss(a[0]);
                default:
                    return bestWay(grip, brake, start).total;
            }
        }

        private long set(int what, int n) {
            if (!in(what, 0, 3) || !in(n, new int[] {-20, 1, 1, 0}[what], new int[] {20, 30, 60, 100000}[what])) {
                return -1000;
            }
            int[] old = {grip, brake, start, stop};
            grip = what == 0 ? n : grip;
            brake = what == 1 ? n : brake;
            start = what == 2 ? n : start;
            stop = what == 3 ? n : stop;
            return old[what];
        }

        private int limit(int i, int lane, int grip) {
            int[] s = stations.get(i);
            int bend = s[3] + grip - 3 * (lane > s[1] ? lane - s[1] : s[1] - lane);
            int raw = new int[] {60, bend, bend - 4, s[3]}[s[0]];
            return raw < 1 ? 1 : raw > 60 ? 60 : raw;
        }

        private int reach(int p) {
            int most = p;
            for (int g = 1; g <= 6; g++) {
                if (top[g] > p) {
                    most = Math.max(most, Math.min(p + pull[g], top[g]));
                }
            }
            return most;
        }

        private int shift(int p) {
            for (int g = 6; g >= 0; g--) {
                boolean lesser = false;
                for (int h = 0; h < g; h++) {
                    lesser |= comes(h, p);
                }
                if (comes(g, p) && !lesser) {
                    return g;
                }
            }
            throw new AssertionError();
        }

        private boolean comes(int g, int p) {
            return g == 0 ? reach(p) == p : top[g] > p && Math.min(p + pull[g], top[g]) == reach(p);
        }

        private String steady(int lane) {
            return ("" + lane).repeat(n());
        }

        /** Lowers the paces until nothing is broken: the greatest such there are. */
        private int[] paces(String lanes, int grip, int brake, int start) {
            int[] p = new int[n()];
            for (int i = 0; i < n(); i++) {
                p[i] = limit(i, lanes.charAt(i) - '0', grip);
            }
            boolean again = true;
            while (again) {
                again = false;
                for (int i = 0; i < n(); i++) {
                    int most = i == 0 ? start : reach(p[i - 1]);
                    if (i + 1 < n()) {
                        most = Math.min(most, p[i + 1] + brake);
                    }
                    if (p[i] > most) {
                        p[i] = most;
                        again = true;
                    }
                }
            }
            return p;
        }

        private int timeAt(String lanes, int[] p, int i) {
            boolean other = i > 0 && lanes.charAt(i) != lanes.charAt(i - 1);
            return (stations.get(i)[2] + (other ? 2 : 0)) * 1000 / p[i];
        }

        private long time(String lanes, int[] p) {
            long sum = 0;
            for (int i = 0; i < n(); i++) {
                sum += timeAt(lanes, p, i);
            }
            return sum;
        }

        private Found bestWay(int grip, int brake, int start) {
            if (n() == 0) {
                return new Found(0, "");
            }
            return n() <= 5 ? everyWay("", grip, brake, start) : byPaces(grip, brake, start);
        }

        private Found everyWay(String lanes, int grip, int brake, int start) {
            if (lanes.length() == n()) {
                return new Found(time(lanes, paces(lanes, grip, brake, start)), lanes);
            }
            Found found = null;
            for (int lane = 0; lane < 3; lane++) {
                if (lanes.isEmpty() || Math.abs(lanes.charAt(lanes.length() - 1) - '0' - lane) <= 1) {
                    Found one = everyWay(lanes + lane, grip, brake, start);
                    found = one.before(found) ? one : found;
                }
            }
            return found;
        }

        /** For many STATIONS: the best way on from each lane and pace, with its lanes as a text. */
        private Found byPaces(int grip, int brake, int start) {
            Found[][] after = new Found[3][61];
            for (int i = n() - 1; i >= 0; i--) {
                Found[][] now = new Found[3][61];
                for (int lane = 0; lane < 3; lane++) {
                    for (int p = 1; p <= limit(i, lane, grip); p++) {
                        now[lane][p] = onward(i, lane, p, after, brake);
                    }
                }
                after = now;
            }
            Found found = null;
            for (int lane = 0; lane < 3; lane++) {
                for (int p = 1; p <= start; p++) {
                    Found one = after[lane][p];
                    if (one != null) {
                        Found whole = new Found(one.total + stations.get(0)[2] * 1000 / p, lane + one.lanes);
                        found = whole.before(found) ? whole : found;
                    }
                }
            }
            return found;
        }

        private Found onward(int i, int lane, int p, Found[][] after, int brake) {
            if (i == n() - 1) {
                return new Found(0, "");
            }
            Found found = null;
            for (int to = Math.max(0, lane - 1); to <= Math.min(2, lane + 1); to++) {
                for (int q = Math.max(1, p - brake); q <= reach(p); q++) {
                    if (after[to][q] != null) {
                        long t = (stations.get(i + 1)[2] + (to == lane ? 0 : 2)) * 1000 / q + after[to][q].total;
                        if (found == null || t <= found.total) {
                            Found one = new Found(t, to + after[to][q].lanes);
                            found = one.before(found) ? one : found;
                        }
                    }
                }
            }
            return found;
        }

        private int[] bestPaces() {
            return paces(bestWay(grip, brake, start).lanes, grip, brake, start);
        }

        private long best(int i, int what) {
            String lanes = bestWay(grip, brake, start).lanes;
            return what == 0 ? lanes.charAt(i) - '0' : what == 1 ? bestPaces()[i] : timeAt(lanes, bestPaces(), i);
        }

        private long worth(int what, int n) {
            if (!in(what, 0, 2) || !in(n, new int[] {-20, 1, 1}[what], new int[] {20, 30, 60}[what])) {
                return IAE;
            }
            long now = bestWay(grip, brake, start).total;
            return now - bestWay(what == 0 ? n : grip, what == 1 ? n : brake, what == 2 ? n : start).total;
        }

        private long wants() {
            long most = bestWay(grip, brake, start).total;
            int wants = -2;
            for (int i = 0; i < n(); i++) {
                if (stations.get(i)[3] < 60) {
                    stations.get(i)[3]++;
                    long one = bestWay(grip, brake, start).total;
                    stations.get(i)[3]--;
                    if (one < most) {
                        most = one;
                        wants = i;
                    }
                }
            }
            return wants;
        }

        private long delta(int i) {
            return stations.get(i)[4] == 0 ? 0 : stations.get(i)[4] - best(i, 2);
        }

        /** By units: the most gains and the least set of them; from one STATION to the next. */
        private long[] spending(int units) {
            long[][] most = new long[units + 1][2];
            String lanes = bestWay(grip, brake, start).lanes;
            int[] p = bestPaces();
            for (int i = 0; i < n(); i++) {
                int cost = stations.get(i)[2] / 10 + 1;
                for (int u = units; u >= cost; u--) {
                    long gains = most[u - cost][0] + timeAt(lanes, p, i) / 10;
                    long set = most[u - cost][1] + (1L << i);
                    if (gains > most[u][0] || gains == most[u][0] && set < most[u][1]) {
                        most[u] = new long[] {gains, set};
                    }
                }
            }
            return most[units];
        }

        private long on(int tyre, int laps) {
            return bestWay(Math.max(-20, tyreGrip[tyre] - laps / tyreLaps[tyre]), brake, start).total;
        }

        /** A plan as a text: the kind at lap 0, then 0 for going on and 1 and the kind for a STOP. */
        private Found plan(int laps) {
            long[][] laptimes = new long[4][laps];
            long[] byGrip = new long[41];
            Arrays.fill(byGrip, -1);
            for (int t = 0; t < 4; t++) {
                for (int a = 0; a < laps; a++) {
                    int g = Math.max(-20, tyreGrip[t] - a / tyreLaps[t]) + 20;
                    if (byGrip[g] < 0) {
                        byGrip[g] = bestWay(g - 20, brake, start).total;
                    }
                    laptimes[t][a] = byGrip[g];
                }
            }
            boolean must = two && laps > 1;
            return laps <= 5 ? everyPlan("", laps, laptimes, must) : byLaps(laps, laptimes, must);
        }

        private Found everyPlan(String plan, int laps, long[][] laptimes, boolean must) {
            if (plan.length() == laps) {
                return weigh(plan, laptimes, must);
            }
            Found found = null;
            for (char c = plan.isEmpty() ? '1' : '0'; c <= '4'; c++) {
                Found one = everyPlan(plan + c, laps, laptimes, must);
                found = one != null && one.before(found) ? one : found;
            }
            return found;
        }

        private Found weigh(String plan, long[][] laptimes, boolean must) {
            long total = 0;
            int kinds = 0;
            for (int lap = 0; lap < plan.length(); lap++) {
                kinds |= 1 << told(plan, lap, 0);
                total += laptimes[told(plan, lap, 0)][told(plan, lap, 2)] + (told(plan, lap, 1) == 1 ? stop : 0);
            }
            return must && Integer.bitCount(kinds) < 2 ? null : new Found(total, plan);
        }

        private int told(String plan, int lap, int what) {
            int begun = lap;
            while (plan.charAt(begun) == '0') {
                begun--;
            }
            if (what == 0) {
                return plan.charAt(begun) - '1';
            }
            return what == 1 ? (lap > 0 && begun == lap ? 1 : 0) : lap - begun;
        }

        private Found byLaps(int laps, long[][] laptimes, boolean must) {
            Found[][][] after = new Found[4][laps + 1][2]; // by kind, laps done, whether two kinds were on
            for (int lap = laps - 1; lap >= 0; lap--) {
                Found[][][] now = new Found[4][laps + 1][2];
                for (int kind = 0; kind < 4; kind++) {
                    for (int done = 0; done <= lap; done++) {
                        for (int both = 0; both < 2; both++) {
                            Found rest = lap == laps - 1
                                    ? (must && both == 0 ? null : new Found(0, ""))
                                    : thence(kind, done, both, after);
                            now[kind][done][both] = rest == null ? null
                                    : new Found(rest.total + laptimes[kind][done], rest.lanes);
                        }
                    }
                }
                after = now;
            }
            Found found = null;
            for (int kind = 0; kind < 4; kind++) {
                Found one = new Found(after[kind][0][0].total, (kind + 1) + after[kind][0][0].lanes);
                found = one.before(found) ? one : found;
            }
            return found;
        }

        private Found thence(int kind, int done, int both, Found[][][] after) {
            Found next = after[kind][done + 1][both];
            Found found = next == null ? null : new Found(next.total, "0" + next.lanes);
            for (int k = 0; k < 4; k++) {
                Found one = after[k][0][both == 1 || k != kind ? 1 : 0];
                if (one != null) {
                    Found whole = new Found(one.total + stop, (k + 1) + one.lanes);
                    found = whole.before(found) ? whole : found;
                }
            }
            return found;
        }

        private long count(int what) {
            int lengths = 0;
            int tolds = 0;
            for (int[] s : stations) {
                lengths += s[2];
                tolds += s[4] == 0 ? 0 : 1;
            }
            int changes = 0;
            String lanes = what == 3 ? bestWay(grip, brake, start).lanes : "";
            for (int i = 1; i < lanes.length(); i++) {
                changes += lanes.charAt(i) == lanes.charAt(i - 1) ? 0 : 1;
            }
            return in(what, 0, 3) ? new int[] {n(), lengths, tolds, changes}[what] : -1;
        }

        /** A STATION is held as a text, so that it's none of the rows. */
        private long keep(int d, int what, int k) {
            if (!in(d, 0, 7) || !in(what, 0, 4) || what == 2 || what == 1 && !st(k) || what == 4 && !in(k, 0, 2)) {
                return -1;
            }
            if (what == 0) {
                shelves[d] = null;
            } else if (what == 1) {
                int[] s = stations.get(k);
                shelves[d] = s[0] + "," + s[1] + "," + s[2] + "," + s[3];
            } else if (what == 3) {
                shelves[d] = bestPaces();
            } else {
                byte[] row = new byte[n()];
                int[] p = paces(steady(k), grip, brake, start);
                for (int i = 0; i < row.length; i++) {
                    row[i] = (byte) p[i];
                }
                shelves[d] = row;
            }
            return 0;
        }

        private long element(int d, int i) {
            if (!in(d, 0, 7)) {
                return IAE;
            }
            Object held = shelves[d];
            if (held instanceof int[]) {
                return in(i, 0, ((int[]) held).length - 1) ? ((int[]) held)[i] : ISE;
            }
            return held instanceof byte[] && in(i, 0, ((byte[]) held).length - 1) ? ((byte[]) held)[i] : ISE;
        }

        private long copy(int d, int i, int e, int j, int n) {
            if (!in(d, 0, 7) || !in(e, 0, 7)) {
                return -1;
            }
            Object from = shelves[d];
            Object to = shelves[e];
            if (from == null || to == null) {
                return -11;
            }
            if (from instanceof String || to instanceof String || from.getClass() != to.getClass()) {
                return -12;
            }
            int ends = from instanceof int[] ? ((int[]) from).length : ((byte[]) from).length;
            int endsTo = from instanceof int[] ? ((int[]) to).length : ((byte[]) to).length;
            if (n < 0 || i < 0 || j < 0 || (long) i + n > ends || (long) j + n > endsTo) {
                return -13;
            }
            System.arraycopy(from, i, to, j, n);
            return n;
        }

        private long weight(int d) {
            if (!in(d, 0, 7)) {
                return -1;
            }
            if (shelves[d] == null) {
                return -11;
            }
            if (!(shelves[d] instanceof String)) {
                return -12;
            }
            String[] s = ((String) shelves[d]).split(",");
            int line = Integer.parseInt(s[1]);
            int length = Integer.parseInt(s[2]);
            int base = Integer.parseInt(s[3]);
            return new int[] {10 + length, 110 + length + base, 220 + 2 * length + 2 * base, 10 + length + line}[
                    Integer.parseInt(s[0])];
        }

        private long toss(int d) {
            long weight = weight(d);
            if (weight < 0) {
                return weight;
            }
            String[] s = ((String) shelves[d]).split(",");
            return s[0].equals("1") || s[0].equals("2") ? Integer.parseInt(s[1]) : -15;
        }
    }
}
