import java.lang.reflect.InvocationTargetException;
import java.lang.reflect.Method;
import java.util.Arrays;
import java.util.Comparator;

/** What tests by hand share: answers are held beside those that are due, and the wrong ones are told. */
abstract class Answers {
    static final int LEAST = Integer.MIN_VALUE;
    static final int MOST = Integer.MAX_VALUE;

    /** The words of the document that are being tested. */
    static String words = "";
    private static int wrong = 0;

    interface Call {
        long answer();
    }

    static void due(long want, Call call) {
        compare("" + want, call);
    }

    static void dueThrown(Class<? extends RuntimeException> want, Call call) {
        compare(want.getName(), call);
    }

    /** No such thing, where the document answers by this exception. */
    static void dueNoSuch(Call call) {
        dueThrown(IllegalArgumentException.class, call);
    }

    /** A place on a SHELF that can't be looked at. */
    static void dueNoPlace(Call call) {
        dueThrown(IllegalStateException.class, call);
    }

    /** The answer as a text, or the name of what is thrown. */
    static String answerOf(Call call) {
        try {
            return "" + call.answer();
        } catch (RuntimeException e) {
            return e.getClass().getName();
        }
    }

    private static void compare(String want, Call call) {
        String got = answerOf(call);
        if (!got.equals(want)) {
            tell("answered " + got + ", due is " + want);
        }
    }

    static void tell(String what) {
        wrong++;
        StringBuilder lines = new StringBuilder();
        for (StackTraceElement at : new Throwable().getStackTrace()) {
            if (!at.getClassName().equals("Answers") && at.getClassName().endsWith("Test")) {
                lines.append(lines.length() > 0 ? " < " : "").append(at.getLineNumber());
            }
        }
        System.out.println(words + " (line " + lines + "): " + what);
    }

    /** A board with STATIONS told as (told, length, base) one after another. */
    static LapBoard board(int... told) {
        LapBoard x = new LapBoard();
        for (int i = 0; i + 2 < told.length; i += 3) {
            x.station(told[i], told[i + 1], told[i + 2]);
        }
        return x;
    }

    /** A board with the same STATION again and again. */
    static LapBoard alike(int n, int told, int length, int base) {
        LapBoard x = new LapBoard();
        for (int i = 0; i < n; i++) {
            x.station(told, length, base);
        }
        return x;
    }

    /** The ROW on a SHELF, and that it ends there. */
    static void dueRow(LapBoard x, int d, int... want) {
        for (int i = 0; i < want.length; i++) {
            int place = i;
            due(want[i], () -> x.element(d, place));
        }
        dueNoPlace(() -> x.element(d, want.length));
    }

    static void dueLimits(LapBoard x, int station, int... want) {
        for (int i = 0; i < want.length; i++) {
            int lane = i;
            due(want[i], () -> x.limit(station, lane));
        }
    }

    static void dueQuickest(LapBoard x, int lane, int... want) {
        for (int i = 0; i < want.length; i++) {
            int station = i;
            due(want[i], () -> x.quickest(lane, station));
        }
    }

    static void dueLanes(LapBoard x, int... want) {
        for (int i = 0; i < want.length; i++) {
            int station = i;
            due(want[i], () -> x.best(station, 0));
        }
    }

    /** THE PLAN, lap by lap: the TYRE, whether one STOPS ahead, how many laps it had done. */
    static void duePlan(LapBoard x, int laps, int[]... want) {
        for (int i = 0; i < want.length; i++) {
            for (int what = 0; what < 3; what++) {
                int lap = i;
                int of = what;
                due(want[i][what], () -> x.plan(laps, lap, of));
            }
        }
    }

    /** Runs each test that bears words of the document. */
    static void runAll(Class<?> tests) {
        Method[] methods = tests.getDeclaredMethods();
        Arrays.sort(methods, Comparator.comparing(Method::getName));
        int ran = 0;
        for (Method test : methods) {
            Says says = test.getAnnotation(Says.class);
            if (says != null) {
                words = says.value();
                run(test);
                ran++;
            }
        }
        end(tests.getSimpleName(), ran + " sentences hold");
    }

    private static void run(Method test) {
        try {
            test.invoke(null);
        } catch (InvocationTargetException e) {
            wrong++;
            System.out.println(words + ": " + e.getCause());
        } catch (IllegalAccessException e) {
            wrong++;
            System.out.println(words + ": can't be run: " + e);
        }
    }

    static void end(String name, String good) {
        System.out.println(name + ": " + (wrong == 0 ? good : wrong + " wrong"));
        if (wrong != 0) {
            System.exit(1);
        }
    }
}
