/** Counts and prints answers that are not the ones that are due. */
final class Check {
    private static int wrong = 0;
    private static int done = 0;

    private Check() {
    }

    static void same(String what, long got, long due) {
        done++;
        if (got != due) {
            report(what + " answered " + got + ", due is " + due);
        }
    }

    static void same(String what, char got, char due) {
        done++;
        if (got != due) {
            report(what + " answered '" + got + "', due is '" + due + "'");
        }
    }

    static void sameDouble(String what, double got, double due) {
        done++;
        if (got != due) {
            report(what + " answered " + got + ", due is " + due);
        }
    }

    static void same(String what, String got, String due) {
        done++;
        if (!got.equals(due)) {
            int from = Math.max(0, firstDifference(got, due) - 60);
            report(what + " answered " + excerpt(got, from) + ", due is " + excerpt(due, from));
        }
    }

    static void holds(String what, boolean got) {
        done++;
        if (!got) {
            report(what + " does not hold");
        }
    }

    /** The call must throw exactly the class that is due, by a throw of the store's own, and change nothing. */
    static void refuses(String what, ColdStore store, Class<?> due, Runnable call) {
        done++;
        String before = Snapshot.of(store);
        try {
            call.run();
            report(what + " threw nothing, due is " + due.getSimpleName());
        } catch (RuntimeException e) {
            if (e.getClass() != due) {
                report(what + " threw " + e.getClass().getName() + ", due is " + due.getSimpleName());
            } else if (!e.getStackTrace()[0].getClassName().startsWith("ColdStore")) {
                report(what + " was thrown by " + e.getStackTrace()[0]);
            }
        }
        String after = Snapshot.of(store);
        if (!after.equals(before)) {
            report(what + " changed the store from " + before + " to " + after);
        }
    }

    static void end() {
        System.out.println(done + " checks, " + wrong + " wrong");
        if (wrong != 0) {
            System.exit(1);
        }
    }

    private static int firstDifference(String one, String other) {
        int i = 0;
        while (i < one.length() && i < other.length() && one.charAt(i) == other.charAt(i)) {
            i++;
        }
        return i;
    }

    /** Long texts differ in some place that is lost in the whole of them. */
    private static String excerpt(String text, int from) {
        int end = Math.min(text.length(), from + 160);
        return (from > 0 ? ".. " : "") + text.substring(Math.min(from, end), end) + (end < text.length() ? " .." : "");
    }

    private static void report(String text) {
        wrong++;
        System.out.println(text);
    }
}
