import java.util.ArrayList;
import java.util.List;

/**
 * "A refused call changes nothing": on an empty track, on one of some STATIONS and on a full one each refused
 * call is made on a board, and all that can be asked of it is held beside a twin that was not called.
 */
public final class RefusedCallsTest extends Answers {
    private static final int EMPTY = 0;
    private static final int SOME = 1;
    private static final int FULL = 2;
    private static final String[] STATES = {"an empty track", "some stations", "a full track"};
    private static final String IAE = IllegalArgumentException.class.getName();
    private static final String ISE = IllegalStateException.class.getName();

    interface BoardCall {
        long on(LapBoard x);
    }

    /** A call by name, the answer that is due (null: any) and the call itself. */
    private static final class Asked {
        final String name;
        final String want;
        final BoardCall call;

        Asked(String name, String want, BoardCall call) {
            this.name = name;
            this.want = want;
            this.call = call;
        }
    }

    public static void main(String[] args) {
        int made = 0;
        for (int state = 0; state < 3; state++) {
            List<Asked> all = new ArrayList<>();
            refusedByNumbers(all);
            refusedByShelves(all);
            refusedInState(all, state);
            questions(all);
            List<String> twin = look(built(state));
            for (Asked asked : all) {
                words = STATES[state] + ", " + asked.name;
                check(state, asked, twin);
                made++;
            }
        }
        end("RefusedCallsTest", made + " calls changed nothing");
    }

    private static void check(int state, Asked asked, List<String> twin) {
        LapBoard x = built(state);
        String got = answerOf(() -> asked.call.on(x));
        if (asked.want != null && !got.equals(asked.want)) {
            tell("answered " + got + ", due is " + asked.want);
        }
        List<String> after = look(x);
        for (int i = 0; i < twin.size(); i++) {
            if (!twin.get(i).equals(after.get(i))) {
                tell("changed " + twin.get(i) + " to " + after.get(i));
            }
        }
    }

    /** SHELVES 0, 7: ints; 1: bytes; 2: a BEND; 3: a STRAIGHT; 4: a CREST; 5: nothing; 6: ints, none. */
    private static LapBoard built(int state) {
        LapBoard x = board(30, 50, 13, 12, 20, 25, 0, 40, 9, 20, 30, 31);
        x.set(0, 2);
        x.set(1, 5);
        x.set(2, 25);
        x.set(3, 3000);
        x.gear(2, 22, 5);
        x.gear(6, 58, 3);
        x.tyre(0, 6, 2);
        x.tyre(1, 1, 7);
        x.tyre(3, -4, 20);
        x.make(0, 3, 5);
        x.keep(7, 3, 0);
        x.copy(7, 0, 0, 1, 3);
        x.keep(1, 4, 1);
        x.keep(2, 1, 1);
        x.keep(3, 1, 2);
        x.keep(4, 1, 0);
        x.make(6, 3, 0);
        for (int i = 0; state == EMPTY && i < 4; i++) {
            x.undo();
        }
        for (int i = 4; state == FULL && i < 30; i++) {
            x.station(i % 4 * 10 + i % 3, 3 * i, 61 - 2 * i);
        }
        x.drive(1, 1800);
        x.drive(2, 1500);
        x.drive(29, 777);
        return x;
    }

    /** All that can be asked, each answer behind its name; by calls that change something at the end alone. */
    private static List<String> look(LapBoard x) {
        List<String> seen = new ArrayList<>();
        lookAtStations(x, seen);
        lookAtCarAndRaces(x, seen);
        lookAtShelves(x, seen);
        see(seen, "grip", () -> x.set(0, 0));
        see(seen, "brake", () -> x.set(1, 6));
        see(seen, "start", () -> x.set(2, 20));
        see(seen, "stop", () -> x.set(3, 20000));
        see(seen, "two", () -> x.two(true) ? 1 : 0);
        see(seen, "tyre 0", () -> x.tyre(0, 6, 2));
        see(seen, "tyre 1", () -> x.tyre(1, 1, 7));
        see(seen, "tyre 2", () -> x.tyre(2, 0, 5));
        see(seen, "tyre 3", () -> x.tyre(3, -4, 20));
        see(seen, "gear 2", () -> x.gear(2, 22, 5));
        see(seen, "gear 6", () -> x.gear(6, 58, 3));
        for (int i = 0; i < 30; i++) {
            int station = i;
            see(seen, "base " + i, () -> x.base(station, 1));
            see(seen, "told " + i, () -> x.drive(station, 0));
        }
        return seen;
    }

    private static void see(List<String> seen, String name, Call call) {
        seen.add(name + " " + answerOf(call));
    }

    private static void lookAtStations(LapBoard x, List<String> seen) {
        for (int what = 0; what < 4; what++) {
            int of = what;
            see(seen, "count " + what, () -> x.count(of));
        }
        see(seen, "lap", () -> x.lap());
        see(seen, "wants", () -> x.wants());
        see(seen, "lost", () -> x.lost());
        for (int i = 0; i < 30; i++) {
            int station = i;
            see(seen, "limit " + i, () -> x.limit(station, station % 3));
            see(seen, "lane " + i, () -> x.best(station, 0));
            see(seen, "pace " + i, () -> x.best(station, 1));
            see(seen, "delta " + i, () -> x.delta(station));
        }
        for (int lane = 0; lane < 3; lane++) {
            int on = lane;
            see(seen, "along " + lane, () -> x.along(on));
            see(seen, "quickest " + lane, () -> x.quickest(on, 0));
        }
        for (int u = 4; u <= 60; u += 28) {
            int units = u;
            see(seen, "spend " + u, () -> x.spend(units));
            see(seen, "where " + u, () -> x.where(units));
        }
        see(seen, "worth", () -> x.worth(0, 20));
    }

    private static void lookAtCarAndRaces(LapBoard x, List<String> seen) {
        for (int p = 1; p <= 60; p += 2) {
            int pace = p;
            see(seen, "reach " + p, () -> x.reach(pace));
            see(seen, "shift " + p, () -> x.shift(pace));
        }
        for (int t = 0; t < 4; t++) {
            int tyre = t;
            see(seen, "on " + t, () -> x.on(tyre, 0));
            see(seen, "on worn " + t, () -> x.on(tyre, 39));
        }
        see(seen, "race 40", () -> x.race(40));
        see(seen, "stops 40", () -> x.stops(40));
        see(seen, "race 4", () -> x.race(4));
        for (int i = 0; i < 4; i++) {
            int lap = i;
            see(seen, "tyre in lap " + i, () -> x.plan(4, lap, 0));
            see(seen, "stop ahead of " + i, () -> x.plan(4, lap, 1));
        }
    }

    private static void lookAtShelves(LapBoard x, List<String> seen) {
        for (int d = 0; d < 8; d++) {
            int shelf = d;
            see(seen, "weight " + d, () -> x.weight(shelf));
            see(seen, "toss " + d, () -> x.toss(shelf));
            for (int i = 0; i < 6; i++) {
                int place = i;
                see(seen, "element " + d + ", " + i, () -> x.element(shelf, place));
            }
        }
    }

    /** Refused whatever the track. */
    private static void refusedByNumbers(List<Asked> all) {
        for (int told : new int[] {-1, 3, 13, 29, 33, 40, LEAST, MOST}) {
            all.add(new Asked("station told " + told, "-1", x -> x.station(told, 10, 10)));
        }
        for (int n : new int[] {-1, 0, 100, LEAST, MOST}) {
            all.add(new Asked("station of length " + n, "-1", x -> x.station(10, n, 10)));
            all.add(new Asked("station of base " + n, "-1", x -> x.station(10, 10, n)));
            all.add(new Asked("base " + n, "-1", x -> x.base(1, n)));
            all.add(new Asked("gear " + n, "-1", x -> x.gear(n, 60, 20)));
            all.add(new Asked("gear of top " + n, "-1", x -> x.gear(2, n, 20)));
            all.add(new Asked("gear of pull " + n, "-1", x -> x.gear(2, 60, n)));
            all.add(new Asked("set brake " + n, "-1000", x -> x.set(1, n)));
            all.add(new Asked("set start " + n, "-1000", x -> x.set(2, n)));
            all.add(new Asked("worth of brake " + n, IAE, x -> x.worth(1, n)));
            all.add(new Asked("worth of start " + n, IAE, x -> x.worth(2, n)));
            all.add(new Asked("tyre of laps " + n, "-1", x -> x.tyre(1, 20, n)));
        }
        for (int n : new int[] {-21, 21, LEAST, MOST}) {
            all.add(new Asked("set grip " + n, "-1000", x -> x.set(0, n)));
            all.add(new Asked("worth of grip " + n, IAE, x -> x.worth(0, n)));
            all.add(new Asked("tyre of grip " + n, "-1", x -> x.tyre(1, n, 20)));
        }
        for (int n : new int[] {-1, 61, LEAST, MOST}) {
            all.add(new Asked("base " + n, "-1", x -> x.base(0, n)));
            all.add(new Asked("reach " + n, "-1", x -> x.reach(n)));
            all.add(new Asked("shift " + n, "-1", x -> x.shift(n)));
            all.add(new Asked("spend " + n, "-1", x -> x.spend(n)));
            all.add(new Asked("where " + n, "-1", x -> x.where(n)));
            all.add(new Asked("race " + n, IAE, x -> x.race(n)));
            all.add(new Asked("plan " + n, "-1", x -> x.plan(n, 0, 0)));
            all.add(new Asked("plan in lap " + n, "-1", x -> x.plan(40, n, 0)));
            all.add(new Asked("plan of " + n, "-1", x -> x.plan(40, 0, n)));
            all.add(new Asked("stops " + n, "-1", x -> x.stops(n)));
            all.add(new Asked("on worn " + n, IAE, x -> x.on(0, n)));
        }
        for (int n : new int[] {-1, 30, LEAST, MOST}) {
            all.add(new Asked("base of " + n, "-1", x -> x.base(n, 10)));
            all.add(new Asked("limit of " + n, "-1", x -> x.limit(n, 0)));
            all.add(new Asked("quickest at " + n, "-1", x -> x.quickest(0, n)));
            all.add(new Asked("best at " + n, "-1", x -> x.best(n, 0)));
            all.add(new Asked("drive at " + n, "-1", x -> x.drive(n, 5)));
            all.add(new Asked("delta at " + n, IAE, x -> x.delta(n)));
        }
        for (int n : new int[] {-1, 4, LEAST, MOST}) {
            all.add(new Asked("set " + n, "-1000", x -> x.set(n, 1)));
            all.add(new Asked("limit on " + n, "-1", x -> x.limit(0, n)));
            all.add(new Asked("quickest on " + n, "-1", x -> x.quickest(n, 0)));
            all.add(new Asked("along " + n, IAE, x -> x.along(n)));
            all.add(new Asked("best of " + n, "-1", x -> x.best(0, n)));
            all.add(new Asked("worth of " + n, IAE, x -> x.worth(n, 1)));
            all.add(new Asked("tyre " + n, "-1", x -> x.tyre(n, 1, 1)));
            all.add(new Asked("on " + n, IAE, x -> x.on(n, 0)));
            all.add(new Asked("count " + n, "-1", x -> x.count(n)));
        }
        for (int n : new int[] {-1, 100001, MOST}) {
            all.add(new Asked("set stop " + n, "-1000", x -> x.set(3, n)));
            all.add(new Asked("worth of stop " + n, IAE, x -> x.worth(3, n)));
        }
        for (int n : new int[] {-1, 200001, LEAST, MOST}) {
            all.add(new Asked("drive " + n, "-1", x -> x.drive(1, n)));
        }
    }

    private static void refusedByShelves(List<Asked> all) {
        for (int d : new int[] {-1, 8, LEAST, MOST}) {
            for (int w = 0; w < 5; w++) {
                int what = w;
                all.add(new Asked("keep on " + d + ", " + w, "-1", x -> x.keep(d, what, 0)));
            }
            all.add(new Asked("make on " + d, "-1", x -> x.make(d, 3, -1)));
            all.add(new Asked("element on " + d, IAE, x -> x.element(d, 0)));
            all.add(new Asked("copy from " + d, "-1", x -> x.copy(d, 0, 0, 0, 1)));
            all.add(new Asked("copy to " + d, "-1", x -> x.copy(0, 0, d, 0, 1)));
            all.add(new Asked("weight on " + d, "-1", x -> x.weight(d)));
            all.add(new Asked("toss on " + d, "-1", x -> x.toss(d)));
        }
        for (int s = 0; s < 8; s++) {
            int d = s;
            for (int n : new int[] {-1, 2, 5, LEAST, MOST}) {
                all.add(new Asked("keep on " + d + ", " + n, "-1", x -> x.keep(d, n, 0)));
                all.add(new Asked("make on " + d + ", " + n, "-1", x -> x.make(d, n, 4)));
            }
            for (int n : new int[] {-1, 30, LEAST, MOST}) {
                all.add(new Asked("keep on " + d + " station " + n, "-1", x -> x.keep(d, 1, n)));
                all.add(new Asked("keep on " + d + " lane " + n, "-1", x -> x.keep(d, 4, n)));
            }
            for (int n : new int[] {-1, -60, LEAST}) {
                all.add(new Asked("make on " + d + " of " + n, "-14", x -> x.make(d, 3, n)));
                all.add(new Asked("make on " + d + " bytes " + n, "-14", x -> x.make(d, 4, n)));
            }
            for (int n : new int[] {61, MOST}) {
                all.add(new Asked("make on " + d + " of " + n, "-1", x -> x.make(d, 3, n)));
                all.add(new Asked("make on " + d + " bytes " + n, "-1", x -> x.make(d, 4, n)));
            }
            all.add(new Asked("copy from " + d + " to 5", "-11", x -> x.copy(d, 0, 5, 0, 1)));
            all.add(new Asked("copy from 5 to " + d, "-11", x -> x.copy(5, 0, d, 0, 1)));
            all.add(new Asked("element on " + d, ISE, x -> x.element(d, 5)));
            all.add(new Asked("element on " + d, ISE, x -> x.element(d, -1)));
        }
        for (int d : new int[] {1, 2, 3, 4}) {
            all.add(new Asked("copy from 0 to " + d, "-12", x -> x.copy(0, 0, d, 0, 1)));
            all.add(new Asked("copy from " + d + " to 0", "-12", x -> x.copy(d, 0, 0, 0, 1)));
        }
        for (int n : new int[] {-1, 6, LEAST, MOST}) {
            all.add(new Asked("copy from place " + n, "-13", x -> x.copy(0, n, 0, 0, 1)));
            all.add(new Asked("copy to place " + n, "-13", x -> x.copy(0, 0, 0, n, 1)));
            all.add(new Asked("copy " + n, "-13", x -> x.copy(0, 0, 0, 0, n)));
            all.add(new Asked("copy " + n + " bytes", "-13", x -> x.copy(1, 0, 1, 0, n)));
            all.add(new Asked("copy " + n + " to none", "-13", x -> x.copy(0, 0, 6, 0, n)));
        }
        for (int d : new int[] {0, 1, 6, 7}) {
            all.add(new Asked("weight on " + d, "-12", x -> x.weight(d)));
            all.add(new Asked("toss on " + d, "-12", x -> x.toss(d)));
        }
        all.add(new Asked("weight on 5", "-11", x -> x.weight(5)));
        all.add(new Asked("toss on 5", "-11", x -> x.toss(5)));
        all.add(new Asked("toss of a straight", "-15", x -> x.toss(3)));
        all.add(new Asked("toss of a crest", "-15", x -> x.toss(4)));
    }

    private static void refusedInState(List<Asked> all, int state) {
        if (state == EMPTY) {
            all.add(new Asked("undo", "-3", x -> x.undo()));
            all.add(new Asked("base of 0", "-1", x -> x.base(0, 10)));
            all.add(new Asked("drive at 0", "-1", x -> x.drive(0, 5)));
            all.add(new Asked("keep station 0", "-1", x -> x.keep(0, 1, 0)));
            all.add(new Asked("wants", "-2", x -> x.wants()));
            all.add(new Asked("lost", "-2", x -> x.lost()));
        }
        if (state == SOME) {
            all.add(new Asked("base of 4", "-1", x -> x.base(4, 10)));
            all.add(new Asked("drive at 4", "-1", x -> x.drive(4, 5)));
            all.add(new Asked("keep station 4", "-1", x -> x.keep(0, 1, 4)));
        }
        if (state == FULL) {
            all.add(new Asked("station", "-2", x -> x.station(10, 10, 10)));
            all.add(new Asked("station", "-2", x -> x.station(0, 1, 60)));
        }
    }

    /** Calls that only ask, some of them by solving again. */
    private static void questions(List<Asked> all) {
        all.add(new Asked("lap", null, x -> x.lap()));
        all.add(new Asked("wants", null, x -> x.wants()));
        all.add(new Asked("lost", null, x -> x.lost()));
        all.add(new Asked("along", null, x -> x.along(2)));
        all.add(new Asked("quickest", null, x -> x.quickest(2, 1)));
        all.add(new Asked("best", null, x -> x.best(1, 2)));
        all.add(new Asked("limit", null, x -> x.limit(1, 2)));
        all.add(new Asked("delta", null, x -> x.delta(1)));
        for (int n : new int[] {-20, 1, 20}) {
            all.add(new Asked("worth of grip " + n, null, x -> x.worth(0, n)));
            all.add(new Asked("worth of brake " + n, null, x -> x.worth(1, n)));
            all.add(new Asked("worth of start " + n, null, x -> x.worth(2, n)));
        }
        for (int units : new int[] {0, 7, 60}) {
            all.add(new Asked("spend " + units, null, x -> x.spend(units)));
            all.add(new Asked("where " + units, null, x -> x.where(units)));
        }
        for (int laps : new int[] {1, 2, 40}) {
            all.add(new Asked("race " + laps, null, x -> x.race(laps)));
            all.add(new Asked("plan " + laps, null, x -> x.plan(laps, 0, 0)));
            all.add(new Asked("stops " + laps, null, x -> x.stops(laps)));
        }
        all.add(new Asked("on", null, x -> x.on(3, 39)));
        all.add(new Asked("count of lanes changed", null, x -> x.count(3)));
        all.add(new Asked("reach", "25", x -> x.reach(20)));
        all.add(new Asked("shift", "3", x -> x.shift(20)));
        all.add(new Asked("weight", "155", x -> x.weight(2)));
        all.add(new Asked("toss", "2", x -> x.toss(2)));
        all.add(new Asked("copy of none", "0", x -> x.copy(0, 5, 0, 0, 0)));
    }
}
