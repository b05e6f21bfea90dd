import java.util.function.Supplier;

/**
 * "CELLS on their way stand in one row, at most 20 ..; a cell that finds no room is lost (counted; the call that
 * sends it does all else as said)": each call that sends one, and each cell that comes and has two sent.
 */
public final class FullRowTest {
    private static final int ROOM = 20;

    private FullRowTest() {
    }

    public static void main(String[] args) {
        twentyHaveRoom();
        createWithoutRoom();
        extendWithoutRoom();
        beginWithoutRoom();
        sendWithoutRoom();
        endWithoutRoom();
        truncateWithoutRoom();
        closeWithoutRoom();
        comingMakesRoom();
        windowWithoutRoom();
        secondDestroyWithoutRoom();
        truncatedWithoutRoom();
        losingMakesRoom();
        Check.finish();
    }

    private static OnionCells full(Supplier<OnionCells> made) {
        OnionCells x = made.get();
        Made.fill(x, ROOM);
        return x;
    }

    private static void twentyHaveRoom() {
        OnionCells x = new OnionCells();
        for (int sent = 1; sent <= ROOM; sent++) {
            if (sent % 2 == 1) {
                Check.is("create with room", x.create(0, 1, 5), sent);
            } else {
                x.close(0);
            }
            Check.is("on their way", x.count(0), sent);
            Check.is("the last one", x.cell(sent - 1, 3), sent % 2 == 1 ? 1 : 4);
        }
        Check.is("none is lost", x.count(2), 0);
        Check.is("create without room", x.create(0, 2, 5), ROOM);
        Check.is("one is lost", x.count(2), 1);
        Check.is("on their way still", x.count(0), ROOM);
        Check.is("the first is as it was", x.cell(0, 1), 1);
        Check.is("the last is as it was", x.cell(ROOM - 1, 1), 1);
        Check.holds("all that came or were lost", x.loss() == 1f);
    }

    /** The call without room differs from one whose cell is lost on its way in nothing but how many cells it tells. */
    private static void withoutRoom(Supplier<OnionCells> made, Call call, String due) {
        OnionCells x = full(made);
        int lost = x.count(2);
        String got = call.on(x);
        Check.holds(call + " without room answers " + got + ", due is " + due, got.equals(due));
        Check.is(call + ": one is lost", x.count(2), lost + 1);
        Check.is(call + ": on their way", x.count(0), ROOM);
        Twin.alike(call + " without room",
                () -> full(() -> Twin.after(made, call, new Call("lose", 0))),
                () -> Twin.after(() -> full(made), call), view -> true);
    }

    private static OnionCells streaming() {
        return Made.streaming(1, 1, 1, 2);
    }

    private static void createWithoutRoom() {
        withoutRoom(OnionCells::new, new Call("create", 0, 1, 3), "20");
    }

    private static void extendWithoutRoom() {
        withoutRoom(FullRowTest::streaming, new Call("extend", 0, 3, 3), "20");
    }

    private static void beginWithoutRoom() {
        withoutRoom(FullRowTest::streaming, new Call("begin", 0, 2, 0), "null");
    }

    private static void sendWithoutRoom() {
        withoutRoom(FullRowTest::streaming, new Call("send", 0, 1, 7, 200), "3");
    }

    private static void endWithoutRoom() {
        withoutRoom(FullRowTest::streaming, new Call("end", 0, 1), "2");
    }

    private static void truncateWithoutRoom() {
        withoutRoom(FullRowTest::streaming, new Call("truncate", 0, 0), "2");
    }

    private static void closeWithoutRoom() {
        withoutRoom(FullRowTest::streaming, new Call("close", 0), "null");
    }

    /** The first cell has gone out of the row when what it causes is sent. */
    private static void comingMakesRoom() {
        OnionCells x = full(() -> Twin.after(FullRowTest::streaming, new Call("send", 0, 1, 1, 1)));
        x.deliver(1);
        Check.is("on their way", x.count(0), ROOM);
        Check.is("none is lost", x.count(2), 0);
        Check.is("what was sent is the last", x.cell(ROOM - 1, 1), 2);
    }

    /** Of two cells that are sent when the first comes, the first one has room; the second one is lost. */
    private static void secondWithoutRoom(String what, Supplier<OnionCells> made) {
        OnionCells x = Twin.after(() -> full(made), new Call("deliver", 1));
        OnionCells roomy = Twin.after(made, new Call("deliver", 1));
        Check.is(what + ": two are sent", roomy.count(0), 2);
        Check.is(what + ": on their way", x.count(0), ROOM);
        Check.is(what + ": one is lost", x.count(2), 1);
        for (int k = 0; k < 19; k++) {
            Check.is(what + ": cell(19, " + k + ")", x.cell(ROOM - 1, k), roomy.cell(0, k));
        }
        Twin.alike(what + " without room",
                () -> full(() -> Twin.after(made, new Call("deliver", 1), new Call("lose", 1))),
                () -> Twin.after(() -> full(made), new Call("deliver", 1)), view -> !view.name.equals("cell"));
    }

    private static void windowWithoutRoom() {
        secondWithoutRoom("WINDOW behind DATA", () -> Twin.after(() -> Made.streaming(1, 0, 1),
                new Call("send", 0, 1, 1, 1), new Call("deliver", 2), new Call("send", 0, 1, 3, 1)));
    }

    private static void secondDestroyWithoutRoom() {
        secondWithoutRoom("DESTROY to the node behind", () -> Twin.after(() -> Made.through(1, 2),
                new Call("begin", 0, 1, 0), new Call("damage", 0, 9, 1)));
    }

    private static void truncatedWithoutRoom() {
        secondWithoutRoom("TRUNCATED behind DESTROY", () -> Twin.after(() -> Made.through(1, 2),
                new Call("truncate", 0, 0)));
    }

    private static void losingMakesRoom() {
        OnionCells x = full(OnionCells::new);
        x.create(0, 1, 3);
        x.lose(7);
        Check.is("nineteen", x.count(0), ROOM - 1);
        Check.is("the new one has room", x.create(1, 2, 3), ROOM);
        Check.is("it is the last", x.cell(ROOM - 1, 2), 1);
        Check.is("no more are lost", x.count(2), 2);
    }
}
