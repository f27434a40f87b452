import java.util.Arrays;

/** A lap board: what it must do is told by the numbered promises of DOC.md. */
public final class LapBoard {

    private static final int MOST_STATIONS = 30;
    private static final int LANES = 3;
    private static final int MOST_LENGTH = 99;
    private static final int MOST_PACE = 60;
    private static final int MOST_GEAR = 6;
    private static final int MOST_PULL = 20;
    private static final int MOST_GRIP = 20;
    private static final int MOST_BRAKE = 30;
    private static final int MOST_STOP = 100000;
    private static final int MOST_UNITS = 60;
    private static final int MOST_TOLD = 200000;
    private static final int TYRES = 4;
    private static final int MOST_WEAR = 20;
    private static final int MOST_LAPS = 40;
    private static final int SHELVES = 8;
    private static final int MOST_ROW = 60;

    private static final int STRAIGHT = 0;
    private static final int BEND = 1;
    private static final int CHICANE = 2;
    private static final int CREST = 3;

    private static final int GRIP = 0;
    private static final int BRAKE = 1;
    private static final int START = 2;
    private static final int STOP = 3;

    private static final int NOTHING = 0;
    private static final int STATION = 1;
    private static final int INTS = 3;
    private static final int BYTES = 4;

    private static final int BAD = -1;
    private static final int FULL = -2;
    private static final int NONE = -2;
    private static final int EMPTY = -3;
    private static final int NOT_HELD = -11;
    private static final int OTHER_KIND = -12;
    private static final int NO_PLACE = -13;
    private static final int NO_SIZE = -14;
    private static final int NO_FAILURE = -15;
    private static final int NOT_SET = -1000;

    /** More than any total; some such may be added without passing an int's end. */
    private static final int FAR = 1 << 29;

    private final Ways ways;
    private final Store store;
    private final Race race;
    private final Shelf[] shelves;

    public LapBoard() {
        ways = new Ways();
        store = new Store();
        race = new Race();
        shelves = new Shelf[SHELVES];
        for (int d = 0; d < SHELVES; d++) {
            shelves[d] = new Shelf();
        }
    }

    // ---- the track and the car

    public int station(int told, int length, int base) {
        if (!within(told, 0, 10 * CREST + LANES - 1) || told % 10 >= LANES) {
            return BAD;
        }
        if (!within(length, 1, MOST_LENGTH) || !within(base, 1, MOST_PACE)) {
            return BAD;
        }
        if (ways.track.size >= MOST_STATIONS) {
            return FULL;
        }
        ways.track.add(told, length, base);
        forgetLaps();
        return ways.track.size - 1;
    }

    public int undo() {
        if (ways.track.size < 1) {
            return EMPTY;
        }
        ways.track.dropLast();
        forgetLaps();
        return ways.track.size;
    }

    public int base(int station, int base) {
        if (!ways.track.has(station) || !within(base, 1, MOST_PACE)) {
            return BAD;
        }
        Station changed = ways.track.stations[station];
        int before = changed.base;
        changed.base = base;
        forgetLaps();
        return before;
    }

    public int gear(int gear, int top, int pull) {
        if (!within(gear, 1, MOST_GEAR) || !within(top, 1, MOST_PACE) || !within(pull, 1, MOST_PULL)) {
            return BAD;
        }
        if (!ways.car.changeGear(gear, top, pull)) {
            return 0;
        }
        forgetLaps();
        return 1;
    }

    public int set(int what, int n) {
        if (!settable(what, n)) {
            return NOT_SET;
        }
        if (what == STOP) {
            int before = race.stop;
            race.stop = n;
            race.planned = 0;
            return before;
        }
        int before = ways.car.numbers[what];
        ways.car.numbers[what] = n;
        if (what == GRIP) {
            ways.settled = false;
        } else {
            forgetLaps();
        }
        return before;
    }

    public int limit(int station, int lane) {
        if (!ways.track.has(station) || !within(lane, 0, LANES - 1)) {
            return BAD;
        }
        return ways.track.stations[station].limitOn(lane, ways.car.numbers[GRIP]);
    }

    public int reach(int pace) {
        return within(pace, 1, MOST_PACE) ? ways.car.reaches[pace] : BAD;
    }

    public int shift(int pace) {
        return within(pace, 1, MOST_PACE) ? ways.car.gearFor(pace) : BAD;
    }

    // ---- ways

    public int quickest(int lane, int station) {
        if (!within(lane, 0, LANES - 1) || !ways.track.has(station)) {
            return BAD;
        }
        return ways.stayOn(lane).paces[station];
    }

    public long along(int lane) throws IllegalArgumentException {
        if (!within(lane, 0, LANES - 1)) {
            throw new IllegalArgumentException("no such lane");
        }
        return ways.stayOn(lane).total;
    }

    public int best(int station, int what) {
        if (!ways.track.has(station) || !within(what, 0, 2)) {
            return BAD;
        }
        Way way = ways.bestWay();
        if (what == 0) {
            return way.lanes[station];
        }
        return what == 1 ? way.paces[station] : way.times[station];
    }

    public long lap() {
        return ways.bestWay().total;
    }

    public long worth(int what, int n) throws IllegalArgumentException {
        if (what == STOP || !settable(what, n)) {
            throw new IllegalArgumentException("no such number, or out of range");
        }
        return (long) ways.bestWay().total - ways.lapIf(what, n);
    }

    public int wants() {
        return ways.mostWanting();
    }

    // ---- energy, laps that were driven

    public int spend(int units) {
        if (!within(units, 0, MOST_UNITS)) {
            return BAD;
        }
        store.fill(ways.track, ways.bestWay(), units);
        return store.gainsOf(ways.track.size, units);
    }

    public int where(int units) {
        if (!within(units, 0, MOST_UNITS)) {
            return BAD;
        }
        store.fill(ways.track, ways.bestWay(), units);
        return store.leastSet(ways.track.size, units);
    }

    public int drive(int station, int time) {
        if (!ways.track.has(station) || !within(time, 0, MOST_TOLD)) {
            return BAD;
        }
        Station driven = ways.track.stations[station];
        int before = driven.told;
        driven.told = time;
        return before;
    }

    public long delta(int station) throws IllegalArgumentException {
        if (!ways.track.has(station)) {
            throw new IllegalArgumentException("no such station");
        }
        return ways.behind(station);
    }

    public int lost() {
        int worst = NONE;
        int most = 0;
        for (int i = 0; i < ways.track.size; i++) {
            if (ways.track.stations[i].told > 0) {
                int behind = ways.behind(i);
                if (worst < 0 || behind > most) {
                    worst = i;
                    most = behind;
                }
            }
        }
        return worst;
    }

    // ---- tyres, races

    public int tyre(int tyre, int grip, int laps) {
        if (!within(tyre, 0, TYRES - 1) || !within(grip, -MOST_GRIP, MOST_GRIP) || !within(laps, 1, MOST_WEAR)) {
            return BAD;
        }
        if (race.grips[tyre] == grip && race.wears[tyre] == laps) {
            return 0;
        }
        race.grips[tyre] = grip;
        race.wears[tyre] = laps;
        race.planned = 0;
        return 1;
    }

    public boolean two(boolean is) {
        boolean before = race.needsTwo;
        race.needsTwo = is;
        race.planned = 0;
        return before;
    }

    public long on(int tyre, int laps) throws IllegalArgumentException {
        if (!within(tyre, 0, TYRES - 1) || !within(laps, 0, MOST_LAPS - 1)) {
            throw new IllegalArgumentException("no such tyre, or laps out of range");
        }
        return ways.lapByGrip(race.gripOf(tyre, laps));
    }

    public long race(int laps) throws IllegalArgumentException {
        if (!within(laps, 1, MOST_LAPS)) {
            throw new IllegalArgumentException("no such race");
        }
        race.prepare(ways, laps);
        return race.total;
    }

    public int plan(int laps, int lap, int what) {
        if (!within(laps, 1, MOST_LAPS) || !within(lap, 0, laps - 1) || !within(what, 0, 2)) {
            return BAD;
        }
        race.prepare(ways, laps);
        if (what == 0) {
            return race.kinds[lap];
        }
        if (what == 1) {
            return race.stopsAhead(lap) ? 1 : 0;
        }
        return race.dones[lap];
    }

    public int stops(int laps) {
        if (!within(laps, 1, MOST_LAPS)) {
            return BAD;
        }
        race.prepare(ways, laps);
        int stops = 0;
        for (int lap = 0; lap < laps; lap++) {
            if (race.stopsAhead(lap)) {
                stops++;
            }
        }
        return stops;
    }

    public int count(int what) {
        switch (what) {
            case 0:
                return ways.track.size;
            case 1:
                return ways.track.lengths();
            case 2:
                return ways.track.timesTold();
            case 3:
                return ways.bestWay().changes(ways.track.size);
            default:
                return BAD;
        }
    }

    public int keep(int d, int what, int k) {
        if (!within(d, 0, SHELVES - 1)) {
            return BAD;
        }
        Shelf shelf = shelves[d];
        switch (what) {
            case NOTHING:
                shelf.holds = NOTHING;
                return 0;
            case STATION:
                return ways.track.has(k) ? shelf.holdStation(ways.track.stations[k]) : BAD;
            case INTS:
                return shelf.holdPaces(INTS, ways.bestWay().paces, ways.track.size);
            case BYTES:
                return within(k, 0, LANES - 1)
                        ? shelf.holdPaces(BYTES, ways.stayOn(k).paces, ways.track.size) : BAD;
            default:
                return BAD;
        }
    }

    public int make(int d, int what, int n) {
        if (!within(d, 0, SHELVES - 1) || !within(what, INTS, BYTES) || n > MOST_ROW) {
            return BAD;
        }
        if (n < 0) {
            return NO_SIZE;
        }
        return shelves[d].holdZeros(what, n);
    }

    public long element(int d, int i) throws IllegalArgumentException, IllegalStateException {
        if (!within(d, 0, SHELVES - 1)) {
            throw new IllegalArgumentException("no such shelf");
        }
        Shelf shelf = shelves[d];
        if (!shelf.holdsRow() || !within(i, 0, shelf.size - 1)) {
            throw new IllegalStateException("no row with such a place");
        }
        return shelf.at(i);
    }

    public int copy(int d, int i, int e, int j, int n) {
        if (!within(d, 0, SHELVES - 1) || !within(e, 0, SHELVES - 1)) {
            return BAD;
        }
        Shelf from = shelves[d];
        Shelf to = shelves[e];
        if (from.holds == NOTHING || to.holds == NOTHING) {
            return NOT_HELD;
        }
        if (!from.holdsRow() || from.holds != to.holds) {
            return OTHER_KIND;
        }
        if (!from.hasPlaces(i, n) || !to.hasPlaces(j, n)) {
            return NO_PLACE;
        }
        from.copyPlaces(i, to, j, n);
        return n;
    }

    public int weight(int d) {
        int refusal = stationRefusal(d);
        return refusal < 0 ? refusal : shelves[d].station.heft();
    }

    public int toss(int d) {
        int refusal = stationRefusal(d);
        if (refusal < 0) {
            return refusal;
        }
        Station held = shelves[d].station;
        try {
            held.fail();
        } catch (IllegalStateException failure) {
            return held.line;
        }
        return NO_FAILURE;
    }

    // ---- what the calls share

    private static boolean within(int n, int least, int most) {
        return n >= least && n <= most;
    }

    private static boolean settable(int what, int n) {
        switch (what) {
            case GRIP:
                return within(n, -MOST_GRIP, MOST_GRIP);
            case BRAKE:
                return within(n, 1, MOST_BRAKE);
            case START:
                return within(n, 1, MOST_PACE);
            case STOP:
                return within(n, 0, MOST_STOP);
            default:
                return false;
        }
    }

    private void forgetLaps() {
        ways.forget();
        race.planned = 0;
    }

    /** 0 if a STATION is held on SHELF d, else why not. */
    private int stationRefusal(int d) {
        if (!within(d, 0, SHELVES - 1)) {
            return BAD;
        }
        if (shelves[d].holds == NOTHING) {
            return NOT_HELD;
        }
        return shelves[d].holds == STATION ? 0 : OTHER_KIND;
    }

    /** A place on the track, with the TIME that was driven there (0: none is told). */
    static final class Station {
        int kind;
        int length;
        int base;
        int line;
        int told;

        void take(Station other) {
            kind = other.kind;
            length = other.length;
            base = other.base;
            line = other.line;
        }

        /** BENDS and those under them. */
        boolean bends() {
            return kind == BEND || kind == CHICANE;
        }

        int limitOn(int lane, int grip) {
            int most = kind == STRAIGHT ? MOST_PACE : base;
            if (bends()) {
                most += grip - 3 * Math.abs(lane - line);
            }
            if (kind == CHICANE) {
                most -= 4;
            }
            return Math.max(1, Math.min(MOST_PACE, most));
        }

        int timeAt(int pace, boolean changed) {
            int way = changed ? length + 2 : length;
            return pace > 0 ? way * 1000 / pace : 0;
        }

        int heft() {
            int sum = 10 + length;
            if (bends()) {
                sum += base + 100;
            }
            if (kind == CHICANE) {
                sum *= 2;
            }
            return kind == CREST ? sum + line : sum;
        }

        void fail() {
            if (bends()) {
                throw new IllegalStateException("the station fails");
            }
        }
    }

    /** The STATIONS in their order; those from size on are spare. */
    static final class Track {
        final Station[] stations = new Station[MOST_STATIONS];
        int size;

        Track() {
            for (int i = 0; i < MOST_STATIONS; i++) {
                stations[i] = new Station();
            }
        }

        boolean has(int station) {
            return station >= 0 && station < size && station < MOST_STATIONS;
        }

        void add(int told, int length, int base) {
            if (size < MOST_STATIONS) {
                Station fresh = stations[size];
                fresh.kind = told / 10;
                fresh.line = told % 10;
                fresh.length = length;
                fresh.base = base;
                fresh.told = 0;
                size++;
            }
        }

        void dropLast() {
            if (size > 0) {
                size--;
            }
        }

        int lengths() {
            int sum = 0;
            for (int i = 0; i < size; i++) {
                sum += stations[i].length;
            }
            return sum;
        }

        int timesTold() {
            int told = 0;
            for (int i = 0; i < size; i++) {
                if (stations[i].told > 0) {
                    told++;
                }
            }
            return told;
        }
    }

    /** The GEARS with the REACH that they give, and the numbers GRIP, BRAKE and START. */
    static final class Car {
        final int[] numbers = new int[START + 1];
        final int[] reaches = new int[MOST_PACE + 1];
        private final int[] tops = new int[MOST_GEAR + 1];
        private final int[] pulls = new int[MOST_GEAR + 1];

        Car() {
            numbers[BRAKE] = 6;
            numbers[START] = 20;
            for (int g = 1; g <= MOST_GEAR; g++) {
                tops[g] = 10 * g;
                pulls[g] = 8 - g;
            }
            fillReaches();
        }

        /** Whether anything is another than before. */
        boolean changeGear(int gear, int top, int pull) {
            if (gear < 1 || gear > MOST_GEAR || tops[gear] == top && pulls[gear] == pull) {
                return false;
            }
            tops[gear] = top;
            pulls[gear] = pull;
            fillReaches();
            return true;
        }

        int gearFor(int pace) {
            if (reaches[pace] == pace) {
                return 0;
            }
            for (int g = 1; g <= MOST_GEAR; g++) {
                if (pullOf(g, pace) == reaches[pace]) {
                    return g;
                }
            }
            return 0;
        }

        private int pullOf(int gear, int pace) {
            return tops[gear] > pace ? Math.min(tops[gear], pace + pulls[gear]) : pace;
        }

        private void fillReaches() {
            for (int pace = 1; pace <= MOST_PACE; pace++) {
                int most = pace;
                for (int g = 1; g <= MOST_GEAR; g++) {
                    most = Math.max(most, pullOf(g, pace));
                }
                reaches[pace] = Math.min(MOST_PACE, most);
            }
        }
    }

    /** A WAY with its QUICKEST PACES and their TIMES. */
    static final class Way {
        final int[] lanes = new int[MOST_STATIONS];
        final int[] paces = new int[MOST_STATIONS];
        final int[] times = new int[MOST_STATIONS];
        int total;

        boolean changesAt(int station) {
            return station > 0 && lanes[station] != lanes[station - 1];
        }

        int changes(int size) {
            int changes = 0;
            for (int i = 1; i < size; i++) {
                if (changesAt(i)) {
                    changes++;
                }
            }
            return changes;
        }

        /** From the last STATION back, what its LIMIT and the BRAKE allow; then onward, what REACH does. */
        void quicken(Track track, Car car) {
            for (int i = track.size - 1; i >= 0; i--) {
                paces[i] = track.stations[i].limitOn(lanes[i], car.numbers[GRIP]);
                if (i < track.size - 1) {
                    paces[i] = Math.min(paces[i], paces[i + 1] + car.numbers[BRAKE]);
                }
            }
            total = 0;
            for (int i = 0; i < track.size; i++) {
                int most = i == 0 ? car.numbers[START] : car.reaches[paces[i - 1]];
                paces[i] = Math.min(paces[i], most);
                times[i] = track.stations[i].timeAt(paces[i], changesAt(i));
                total += times[i];
            }
        }
    }

    /**
     * THE BEST WAY, found from the last STATION back: rests[3 * station + lane][pace] is the least
     * TIME of all STATIONS after that one, FAR if one can't brake for them. Paces below the
     * QUICKEST are weighed too: they never make a WAY's least TIME less.
     */
    static final class Ways {
        final Track track = new Track();
        final Car car = new Car();
        boolean settled;
        private final Way best = new Way();
        private final Way steady = new Way();
        private final int[] limits = new int[LANES * MOST_STATIONS];
        private final int[][] rests = new int[LANES * MOST_STATIONS][MOST_PACE + 1];
        private final int[] onward = new int[MOST_PACE + 1];
        private final int[] queue = new int[MOST_PACE + 1];
        private final int[] here = new int[MOST_PACE + 1];
        private final int[] there = new int[MOST_PACE + 1];
        private final int[] lapsByGrip = new int[2 * MOST_GRIP + 1];

        Ways() {
            Arrays.fill(lapsByGrip, -1);
        }

        /** To be called when anything but GRIP has changed. */
        void forget() {
            settled = false;
            Arrays.fill(lapsByGrip, -1);
        }

        Way stayOn(int lane) {
            Arrays.fill(steady.lanes, lane);
            steady.quicken(track, car);
            return steady;
        }

        Way bestWay() {
            if (!settled) {
                int least = solve(car.numbers[GRIP], car.numbers[BRAKE], car.numbers[START]);
                trace(least);
                best.quicken(track, car);
                settled = true;
            }
            return best;
        }

        /** How much more was driven at a STATION than on THE BEST WAY. */
        int behind(int station) {
            int told = track.stations[station].told;
            return told > 0 ? told - bestWay().times[station] : 0;
        }

        int lapByGrip(int grip) {
            int place = grip + MOST_GRIP;
            if (place < 0 || place > 2 * MOST_GRIP) {
                return 0;
            }
            if (lapsByGrip[place] < 0) {
                lapsByGrip[place] = solve(grip, car.numbers[BRAKE], car.numbers[START]);
            }
            return lapsByGrip[place];
        }

        int lapIf(int what, int n) {
            if (what == GRIP) {
                return lapByGrip(n);
            }
            int brake = what == BRAKE ? n : car.numbers[BRAKE];
            int start = what == START ? n : car.numbers[START];
            return solve(car.numbers[GRIP], brake, start);
        }

        /**
         * A STATION's BASE bears on the rests of those before it alone: with STATIONS tried as
         * they come, the rests from each on are still those without a change.
         */
        int mostWanting() {
            int grip = car.numbers[GRIP];
            int brake = car.numbers[BRAKE];
            int start = car.numbers[START];
            int least = solve(grip, brake, start);
            int wanting = NONE;
            for (int i = 0; i < track.size; i++) {
                Station tried = track.stations[i];
                int before = tried.base;
                tried.base = Math.min(MOST_PACE, before + 1);
                fillLimits(i, grip);
                fillRests(i - 1, brake);
                int raised = leastLap(start);
                tried.base = before;
                fillLimits(i, grip);
                if (raised < least) {
                    least = raised;
                    wanting = i;
                }
            }
            return wanting;
        }

        private int solve(int grip, int brake, int start) {
            for (int i = 0; i < track.size; i++) {
                fillLimits(i, grip);
            }
            fillRests(track.size - 1, brake);
            return leastLap(start);
        }

        private void fillLimits(int station, int grip) {
            for (int lane = 0; lane < LANES; lane++) {
                limits[LANES * station + lane] = track.stations[station].limitOn(lane, grip);
            }
        }

        private void fillRests(int last, int brake) {
            for (int i = last; i >= 0; i--) {
                for (int lane = 0; lane < LANES; lane++) {
                    int[] rest = rests[LANES * i + lane];
                    if (i == track.size - 1) {
                        Arrays.fill(rest, 0);
                    } else {
                        fillOnward(i + 1, lane);
                        fillRest(rest, brake);
                    }
                }
            }
        }

        /** By each pace at a STATION that is come to from a LANE: the least TIME from there on. */
        private void fillOnward(int station, int from) {
            Arrays.fill(onward, FAR);
            for (int lane = Math.max(0, from - 1); lane < LANES && lane <= from + 1; lane++) {
                int[] rest = rests[LANES * station + lane];
                int most = limits[LANES * station + lane];
                for (int pace = 1; pace <= most && pace <= MOST_PACE; pace++) {
                    int time = track.stations[station].timeAt(pace, lane != from);
                    onward[pace] = Math.min(onward[pace], time + rest[pace]);
                }
            }
        }

        /**
         * By each pace the least of onward among the paces that may follow it. Both ends of those
         * never fall as the pace rises: so a queue holds, rising, what may yet be the least.
         */
        private void fillRest(int[] rest, int brake) {
            int head = 0;
            int tail = 0;
            int next = 1;
            for (int pace = 1; pace <= MOST_PACE; pace++) {
                for (; next <= car.reaches[pace] && next <= MOST_PACE; next++) {
                    while (tail > head && onward[queue[tail - 1]] >= onward[next]) {
                        tail--;
                    }
                    queue[tail] = next;
                    tail++;
                }
                while (head < tail && queue[head] < pace - brake) {
                    head++;
                }
                rest[pace] = head < tail ? onward[queue[head]] : FAR;
            }
        }

        private int leastLap(int start) {
            int least = track.size > 0 ? FAR : 0;
            for (int lane = 0; track.size > 0 && lane < LANES; lane++) {
                for (int pace = 1; pace <= Math.min(start, limits[lane]); pace++) {
                    least = Math.min(least, track.stations[0].timeAt(pace, false) + rests[lane][pace]);
                }
            }
            return least;
        }

        /**
         * The LANES of THE BEST WAY, the least one first at each STATION. One pace may serve one
         * WAY onward and another pace another: so all paces go along that still give the least TIME.
         */
        private void trace(int least) {
            for (int i = 0; i < track.size; i++) {
                int from = i == 0 ? 1 : best.lanes[i - 1];
                boolean found = false;
                for (int lane = Math.max(0, from - 1); !found && lane < LANES && lane <= from + 1; lane++) {
                    best.lanes[i] = lane;
                    found = i == 0 ? begins(lane, least) : leads(i, from, lane);
                }
                System.arraycopy(there, 0, here, 0, MOST_PACE + 1);
            }
        }

        /** Whether a best lap begins on a LANE; there: by which paces. */
        private boolean begins(int lane, int least) {
            Arrays.fill(there, 0);
            boolean found = false;
            for (int pace = 1; pace <= Math.min(car.numbers[START], limits[lane]); pace++) {
                if (track.stations[0].timeAt(pace, false) + rests[lane][pace] == least) {
                    there[pace] = 1;
                    found = true;
                }
            }
            return found;
        }

        /** Whether one of the paces here leads on to a LANE at a STATION; there: to which paces. */
        private boolean leads(int station, int from, int lane) {
            Arrays.fill(there, 0);
            int[] rest = rests[LANES * station + lane];
            int[] before = rests[LANES * (station - 1) + from];
            boolean found = false;
            for (int pace = 1; pace <= MOST_PACE; pace++) {
                int most = here[pace] > 0 ? Math.min(car.reaches[pace], limits[LANES * station + lane]) : 0;
                for (int next = Math.max(1, pace - car.numbers[BRAKE]); next <= most; next++) {
                    if (track.stations[station].timeAt(next, lane != from) + rest[next] == before[pace]) {
                        there[next] = 1;
                        found = true;
                    }
                }
            }
            return found;
        }
    }

    /** ENERGY: the most GAINS of the first STATIONS by units, mosts[how many STATIONS][units]. */
    static final class Store {
        private final int[][] mosts = new int[MOST_STATIONS + 1][MOST_UNITS + 1];
        private final int[] costs = new int[MOST_STATIONS];

        void fill(Track track, Way way, int units) {
            for (int i = 0; i < track.size; i++) {
                int cost = track.stations[i].length / 10 + 1;
                int gain = way.times[i] / 10;
                costs[i] = cost;
                for (int u = 0; u <= units && u <= MOST_UNITS; u++) {
                    int with = u >= cost ? mosts[i][u - cost] + gain : 0;
                    mosts[i + 1][u] = Math.max(mosts[i][u], with);
                }
            }
        }

        int gainsOf(int size, int units) {
            return mosts[size][units];
        }

        /** The least number has the high bits only where they are needed: so the last STATION is left out first. */
        int leastSet(int size, int units) {
            int set = 0;
            int left = units;
            for (int i = size - 1; i >= 0; i--) {
                if (left >= costs[i] && mosts[i + 1][left] != mosts[i][left]) {
                    set |= 1 << i;
                    left -= costs[i];
                }
            }
            return set;
        }
    }

    /**
     * Tyres and THE PLAN. A state is 2 * kind, and 1 more once two kinds have been on.
     * fresh[state][left]: the least total of the laps left, begun on a new tyre;
     * after[state][left]: the same, if that state ends with a STOP there (its time not in).
     */
    static final class Race {
        final int[] grips = new int[TYRES];
        final int[] wears = new int[TYRES];
        final int[] kinds = new int[MOST_LAPS];
        final int[] dones = new int[MOST_LAPS];
        int stop = 20000;
        boolean needsTwo = true;
        /** How many laps THE PLAN is for that stands in kinds, dones and total; 0: none stands. */
        int planned;
        int total;
        private final int[][] stints = new int[TYRES][MOST_LAPS + 1];
        private final int[][] fresh = new int[2 * TYRES][MOST_LAPS + 1];
        private final int[][] after = new int[2 * TYRES][MOST_LAPS + 1];
        private boolean strict;

        Race() {
            Arrays.fill(wears, 5);
        }

        int gripOf(int tyre, int done) {
            return Math.max(-MOST_GRIP, grips[tyre] - done / Math.max(1, wears[tyre]));
        }

        boolean stopsAhead(int lap) {
            return lap > 0 && dones[lap] == 0;
        }

        void prepare(Ways ways, int laps) {
            if (planned != laps) {
                strict = needsTwo && laps > 1;
                for (int tyre = 0; tyre < TYRES; tyre++) {
                    for (int done = 0; done < laps; done++) {
                        stints[tyre][done + 1] = stints[tyre][done] + ways.lapByGrip(gripOf(tyre, done));
                    }
                }
                for (int left = 1; left <= laps; left++) {
                    fillFresh(left);
                    fillAfter(left);
                }
                trace(laps);
                planned = laps;
            }
        }

        private void fillFresh(int left) {
            for (int state = 0; state < 2 * TYRES; state++) {
                int least = FAR;
                for (int length = 1; length <= left; length++) {
                    least = Math.min(least, stintThenRest(state, length, left));
                }
                fresh[state][left] = least;
            }
        }

        private void fillAfter(int left) {
            for (int state = 0; state < 2 * TYRES; state++) {
                int least = FAR;
                for (int kind = 0; kind < TYRES; kind++) {
                    least = Math.min(least, fresh[stateOn(state, kind)][left]);
                }
                after[state][left] = least;
            }
        }

        private static int stateOn(int state, int kind) {
            return 2 * kind + (state % 2 == 1 || state / 2 != kind ? 1 : 0);
        }

        private int stintThenRest(int state, int length, int left) {
            int run = stints[state / 2][length];
            if (length < left) {
                return run + stop + after[state][left - length];
            }
            return strict && state % 2 == 0 ? FAR : run;
        }

        private void trace(int laps) {
            int first = 0;
            for (int kind = 1; kind < TYRES; kind++) {
                if (fresh[2 * kind][laps] < fresh[2 * first][laps]) {
                    first = kind;
                }
            }
            total = fresh[2 * first][laps];
            int state = 2 * first;
            int begun = 0;
            int length = longestStint(state, laps);
            for (int lap = 0; lap < laps; lap++) {
                if (lap - begun >= length) {
                    state = nextState(state, laps - lap);
                    begun = lap;
                    length = longestStint(state, laps - lap);
                }
                kinds[lap] = state / 2;
                dones[lap] = lap - begun;
            }
        }

        /** THE PLAN goes on wherever it may: the longest stint of the least total. */
        private int longestStint(int state, int left) {
            for (int length = left; length > 1; length--) {
                if (stintThenRest(state, length, left) == fresh[state][left]) {
                    return length;
                }
            }
            return 1;
        }

        private int nextState(int state, int left) {
            for (int kind = 0; kind < TYRES; kind++) {
                if (fresh[stateOn(state, kind)][left] == after[state][left]) {
                    return stateOn(state, kind);
                }
            }
            return state;
        }
    }

    /** A SHELF; what it holds is told by the numbers of keep(). Its rows are used again and again. */
    static final class Shelf {
        int holds = NOTHING;
        int size;
        final Station station = new Station();
        private final int[] ints = new int[MOST_ROW];
        private final byte[] bytes = new byte[MOST_ROW];

        int holdStation(Station other) {
            station.take(other);
            holds = STATION;
            return 0;
        }

        int holdZeros(int what, int n) {
            Arrays.fill(ints, 0);
            Arrays.fill(bytes, (byte) 0);
            holds = what;
            size = n;
            return 0;
        }

        int holdPaces(int what, int[] paces, int n) {
            for (int i = 0; i < n && i < paces.length && i < MOST_ROW; i++) {
                ints[i] = paces[i];
                bytes[i] = (byte) paces[i];
            }
            holds = what;
            size = n;
            return 0;
        }

        boolean holdsRow() {
            return holds == INTS || holds == BYTES;
        }

        boolean hasPlaces(int i, int n) {
            return i >= 0 && n >= 0 && n <= size && i <= size - n;
        }

        int at(int i) {
            return holds == INTS ? ints[i] : bytes[i];
        }

        void copyPlaces(int i, Shelf to, int j, int n) {
            if (holds == INTS) {
                System.arraycopy(ints, i, to.ints, j, n);
            } else {
                System.arraycopy(bytes, i, to.bytes, j, n);
            }
        }
    }
}
