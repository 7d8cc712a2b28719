import java.util.function.IntSupplier;

/** What all tests share: answers and exceptions that are due, and the end of a test. */
final class Check {
    private static int wrong = 0;
    private static int asked = 0;

    private Check() {
    }

    static void due(String call, int want, IntSupplier answer) {
        equal(call, String.valueOf(want), outcome(answer));
    }

    static void dueThrows(String call, Class<? extends RuntimeException> want, IntSupplier answer) {
        equal(call, "throws." + want.getSimpleName(), outcome(answer));
    }

    static void argument(String call, IntSupplier answer) {
        dueThrows(call, IllegalArgumentException.class, answer);
    }

    static void state(String call, IntSupplier answer) {
        dueThrows(call, IllegalStateException.class, answer);
    }

    static void index(String call, IntSupplier answer) {
        dueThrows(call, IndexOutOfBoundsException.class, answer);
    }

    static void equal(String what, String want, String got) {
        asked++;
        if (!want.equals(got)) {
            wrong++;
            if (wrong <= 20) {
                System.out.println(what + " answered " + got + ", due is " + want);
            }
        }
    }

    /** The answer as text, or the exact class of what was thrown, with a mark if a library call threw it. */
    static String outcome(IntSupplier answer) {
        try {
            return String.valueOf(answer.getAsInt());
        } catch (RuntimeException e) {
            return (isOfTheLibrary(e) ? "library." : "throws.") + e.getClass().getSimpleName();
        }
    }

    /** A list's get throws what the document names too, and yet no call may ever throw by itself. */
    private static boolean isOfTheLibrary(RuntimeException e) {
        StackTraceElement[] trace = e.getStackTrace();
        String thrower = trace.length == 0 ? "" : trace[0].getClassName();
        return thrower.startsWith("java.") || thrower.startsWith("jdk.");
    }

    /** The members of a set in their order, asked place by place. */
    static void order(String what, NetworkDatabase x, int owner, int set, int... want) {
        due(what + ": members", want.length, () -> x.members(owner, set));
        due(what + ": membersByTable", want.length, () -> x.membersByTable(owner, set));
        for (int place = 0; place < want.length; place++) {
            int at = place;
            due(what + ": memberAt " + at, want[at], () -> x.memberAt(owner, set, at));
        }
        index(what + ": memberAt behind all", () -> x.memberAt(owner, set, want.length));
    }

    /** The current of the run unit, of the types 0 to 3, then of each set type. */
    static void currents(String what, NetworkDatabase x, int... want) {
        due(what + ": current", want[0], x::current);
        for (int type = 0; type < 4; type++) {
            int t = type;
            due(what + ": currentOf " + t, want[1 + t], () -> x.currentOf(t));
        }
        due(what + ": setTypes", want.length - 5, x::setTypes);
        for (int set = 0; set < want.length - 5; set++) {
            int s = set;
            due(what + ": currentIn " + s, want[5 + s], () -> x.currentIn(s));
        }
    }

    static void end(String test) {
        System.out.println(test + ": " + asked + " asked, " + wrong + " wrong");
        if (wrong != 0 || asked == 0) {
            System.exit(1);
        }
    }
}
