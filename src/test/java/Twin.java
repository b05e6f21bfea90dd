import java.util.ArrayList;
import java.util.List;
import java.util.function.Predicate;
import java.util.function.Supplier;

/**
 * Two objects that must not be told apart: all their views are compared, at once and after runs of calls that bring
 * to light what no view tells (secrets, exponents, how many CREATEs were answered, counts of cells). Each part of the
 * views is read from objects of its own, so that none is asked more than its 512 calls.
 */
final class Twin {
    private static final int PARTS = 3;
    private static final int THEN_NOTHING = 0, THEN_ON = 1, THEN_ANEW = 2;

    private Twin() {
    }

    /** "IndexOutOfBoundsException: there is no such ..." "Such a call changes nothing." */
    static void index(String situation, Supplier<OnionCells> made, String name, int... arguments) {
        refused("IndexOutOfBoundsException", situation, made, new Call(name, arguments));
    }

    static void argument(String situation, Supplier<OnionCells> made, String name, int... arguments) {
        refused("IllegalArgumentException", situation, made, new Call(name, arguments));
    }

    static void state(String situation, Supplier<OnionCells> made, String name, int... arguments) {
        refused("IllegalStateException", situation, made, new Call(name, arguments));
    }

    private static void refused(String due, String situation, Supplier<OnionCells> made, Call call) {
        String what = call + ", " + situation;
        String got = call.on(made.get());
        Check.holds(what + ": " + got + ", due is " + due, got.equals(due));
        alike(what, made, () -> after(made, call), view -> true);
    }

    /** "STRAY (counted; nothing else happens)": the first cell might as well have been lost on its way. */
    static void stray(String what, Supplier<OnionCells> made) {
        OnionCells x = made.get();
        int came = x.count(1);
        int lost = x.count(2);
        int strays = x.count(3);
        x.deliver(1);
        Check.is(what + ": is stray", x.count(3), strays + 1);
        Check.is(what + ": has come", x.count(1), came + 1);
        Check.is(what + ": is not lost", x.count(2), lost);
        alike(what, () -> after(made, new Call("lose", 0)), () -> after(made, new Call("deliver", 1)),
                view -> !tellsOfWhatCame(view));
    }

    static boolean tellsOfWhatCame(Call view) {
        return view.name.equals("loss") || view.name.equals("count") && view.arguments[0] >= 1
                && view.arguments[0] <= 3;
    }

    static OnionCells after(Supplier<OnionCells> made, Call... calls) {
        OnionCells x = made.get();
        for (Call each : calls) {
            each.on(x);
        }
        return x;
    }

    static void alike(String what, Supplier<OnionCells> one, Supplier<OnionCells> other, Predicate<Call> compared) {
        for (int then = THEN_NOTHING; then <= THEN_ANEW; then++) {
            for (int part = 0; part < PARTS; part++) {
                compare(what, told(one.get(), then, part, compared), told(other.get(), then, part, compared));
            }
        }
    }

    private static void compare(String what, List<String> one, List<String> other) {
        for (int i = 0; i < Math.min(one.size(), other.size()); i++) {
            if (!one.get(i).equals(other.get(i))) {
                Check.holds(what + ": " + one.get(i) + " without, " + other.get(i) + " with it", false);
                return;
            }
        }
        Check.is(what + ": how much is told", other.size(), one.size());
    }

    private static List<String> told(OnionCells x, int then, int part, Predicate<Call> compared) {
        List<String> told = new ArrayList<>();
        if (then == THEN_ON) {
            goOn(x, told);
        } else if (then == THEN_ANEW) {
            beginAnew(x, told);
        }
        for (Call view : views(x, part)) {
            if (compared.test(view)) {
                tell(x, view, told);
            }
        }
        return told;
    }

    private static void tell(OnionCells x, Call call, List<String> told) {
        told.add(call + " answers " + call.on(x));
    }

    /** What is on its way comes, and what is open is used. */
    private static void goOn(OnionCells x, List<String> told) {
        tell(x, new Call("deliver", 100), told);
        for (int c = 0; c < 4; c++) {
            for (int s = 1; s <= 3; s++) {
                tell(x, new Call("send", c, s, 1, 9), told);
            }
        }
        tell(x, new Call("deliver", 100), told);
        for (int c = 0; c < 4; c++) {
            tell(x, new Call("extend", c, 1 + c, 11), told);
        }
        tell(x, new Call("deliver", 100), told);
    }

    /** All is closed, and every relay is the first hop of a circuit. */
    private static void beginAnew(OnionCells x, List<String> told) {
        for (int c = 0; c < 4; c++) {
            tell(x, new Call("close", c), told);
        }
        tell(x, new Call("deliver", 100), told);
        for (int c = 0; c < 4; c++) {
            tell(x, new Call("create", c, 1 + c, 13), told);
            tell(x, new Call("deliver", 100), told);
            tell(x, new Call("begin", c, 1, 0), told);
        }
        tell(x, new Call("deliver", 100), told);
    }

    private static List<Call> views(OnionCells x, int part) {
        List<Call> views = new ArrayList<>();
        if (part == 0) {
            addViewsOfClient(views);
        } else if (part == 1) {
            addViewsOfRelays(views);
        } else {
            addViewsOfRow(x, views);
        }
        return views;
    }

    private static void addViewsOfClient(List<Call> views) {
        for (int c = 0; c < 4; c++) {
            for (int what = 0; what < 12; what++) {
                views.add(new Call("circuit", c, what));
            }
            for (int hop = 0; hop < 3; hop++) {
                for (int k = 0; k < 4; k++) {
                    views.add(new Call("key", c, hop, k));
                }
            }
            for (int i = 0; i < 8; i++) {
                views.add(new Call("data", c, i));
            }
        }
    }

    private static void addViewsOfRelays(List<Call> views) {
        for (int r = 1; r <= 4; r++) {
            for (int c = 0; c < 4; c++) {
                for (int what = 0; what < 11; what++) {
                    views.add(new Call("relay", r, c, what));
                }
            }
        }
    }

    private static void addViewsOfRow(OnionCells x, List<Call> views) {
        for (int what = 0; what < 5; what++) {
            views.add(new Call("count", what));
        }
        views.add(new Call("loss"));
        int size = x.count(0);
        for (int i = 0; i < size; i++) {
            for (int what = 0; what < 19; what++) {
                views.add(new Call("cell", i, what));
            }
        }
    }
}
