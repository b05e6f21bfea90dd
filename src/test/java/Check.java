/** Counts and prints the answers that are not the due ones. */
final class Check {
    private static int checked = 0;
    private static int wrong = 0;

    private Check() {
    }

    static void is(String what, long got, long due) {
        checked++;
        if (got != due) {
            say(what + " answered " + got + ", due is " + due);
        }
    }

    static void holds(String what, boolean truth) {
        checked++;
        if (!truth) {
            say(what + " does not hold");
        }
    }

    static void index(String what, Runnable call) {
        refused(what, call, IndexOutOfBoundsException.class);
    }

    static void argument(String what, Runnable call) {
        refused(what, call, IllegalArgumentException.class);
    }

    static void state(String what, Runnable call) {
        refused(what, call, IllegalStateException.class);
    }

    private static void refused(String what, Runnable call, Class<? extends Exception> due) {
        checked++;
        try {
            call.run();
        } catch (RuntimeException thrown) {
            if (thrown.getClass() != due) {
                say(what + " threw " + thrown.getClass().getSimpleName() + ", due is " + due.getSimpleName());
            }
            return;
        }
        say(what + " threw nothing, due is " + due.getSimpleName());
    }

    static void say(String message) {
        wrong++;
        System.out.println(message);
    }

    static void finish() {
        System.out.println(checked + " answers looked at, " + wrong + " wrong");
        if (wrong > 0) {
            System.exit(1);
        }
    }
}
