import java.util.function.Supplier;

/**
 * Every refused call of promises 2 to 18: what it throws, which exception goes before which, and that it changes
 * nothing. What stands just inside a bound is not refused.
 */
public final class RefusedCallsTest {
    private static final int MIN = Integer.MIN_VALUE;
    private static final int MAX = Integer.MAX_VALUE;
    private static final int[] NO_CIRCUITS = {MIN, -1, 4, MAX};
    private static final int[] NO_RELAYS = {MIN, -1, 0, 5, MAX};
    private static final int[] NO_STREAMS = {MIN, -1, 0, 4, MAX};
    private static final int[] NO_EXPONENTS = {MIN, -1, 0, 65520, 65521, MAX};
    private static final int[] NO_BYTES = {MIN, -1, 256, MAX};

    private RefusedCallsTest() {
    }

    public static void main(String[] args) {
        secretOfNoRelay();
        secretThatIsNone();
        secretWithACircuit();
        createOfNoCircuitOrRelay();
        createWithNoExponent();
        createOfOneThatLives();
        extendOfNoCircuitOrRelay();
        extendWithNoExponent();
        extendToAHop();
        extendOfOneNotReady();
        extendOfThreeHops();
        beginOfNoCircuitOrStream();
        beginOfOneNotReady();
        beginToNoHop();
        beginOfAStreamThatIsThere();
        sendOfNoCircuitOrStream();
        sendOfTooMuch();
        sendOfNoByte();
        sendOfOneNotOpen();
        sendWithoutWindow();
        endOfNoCircuitOrStream();
        endOfNothing();
        truncateOfNoCircuit();
        truncateOfOneThatDoesNotLive();
        truncateToNoHop();
        closeOfNoCircuit();
        closeOfOneThatDoesNotLive();
        deliverTooFewOrTooMany();
        damageOfNoCellOrByte();
        damageWithNoByte();
        loseNoCell();
        cellOfNoCellOrPlace();
        circuitOfNoCircuitOrPlace();
        keyOfNoCircuitHopOrKey();
        relayOfNoRelayCircuitOrPlace();
        dataOfNoCircuit();
        countOfNothing();
        Check.finish();
    }

    private static OnionCells building() {
        return Twin.after(OnionCells::new, new Call("create", 0, 1, 5));
    }

    private static OnionCells ready() {
        return Made.through(1, 2);
    }

    private static OnionCells extending() {
        return Twin.after(RefusedCallsTest::ready, new Call("extend", 0, 3, 5));
    }

    private static OnionCells closed() {
        return Twin.after(RefusedCallsTest::ready, new Call("close", 0));
    }

    private static OnionCells closedWithoutHop() {
        return Twin.after(RefusedCallsTest::building, new Call("close", 0));
    }

    private static OnionCells asked() {
        return Twin.after(RefusedCallsTest::ready, new Call("begin", 0, 1, 1));
    }

    /** Stream 1 is OPEN, stream 2 ASKED, stream 3 not there; DATA are on their way. */
    private static OnionCells open() {
        return Twin.after(() -> Made.streaming(1, 1, 1, 2), new Call("begin", 0, 2, 0), new Call("send", 0, 1, 3, 8));
    }

    /** What stands just inside a bound. */
    private static void notRefused(Supplier<OnionCells> made, String name, int... arguments) {
        Call call = new Call(name, arguments);
        String got = call.on(made.get());
        Check.holds(call + " is not refused: " + got, !got.endsWith("Exception"));
    }

    /** Promise 2: "IndexOutOfBoundsException", before the others. */
    private static void secretOfNoRelay() {
        for (int relay : NO_RELAYS) {
            Twin.index("no such relay", RefusedCallsTest::ready, "secret", relay, 7);
            Twin.index("no such relay, and b is none", RefusedCallsTest::ready, "secret", relay, 0);
        }
        for (int relay = 1; relay <= 4; relay++) {
            notRefused(OnionCells::new, "secret", relay, 7);
        }
    }

    /** Promise 2: "IllegalArgumentException: b is not 1 .. 65519", before IllegalStateException. */
    private static void secretThatIsNone() {
        for (int b : NO_EXPONENTS) {
            Twin.argument("new", OnionCells::new, "secret", 3, b);
            Twin.argument("the relay is used", RefusedCallsTest::ready, "secret", 2, b);
        }
        notRefused(OnionCells::new, "secret", 3, 1);
        notRefused(OnionCells::new, "secret", 3, 65519);
    }

    /** Promise 2: "IllegalStateException: a circuit is there at it." */
    private static void secretWithACircuit() {
        for (int circuit = 0; circuit < 4; circuit++) {
            Call create = new Call("create", circuit, 3, 5);
            Twin.state("with circuit " + circuit, () -> Twin.after(OnionCells::new, create, new Call("deliver", 1)),
                    "secret", 3, 8);
        }
        for (int relay = 1; relay <= 3; relay++) {
            Twin.state("one of three hops", () -> Made.through(1, 2, 3), "secret", relay, 8);
        }
        notRefused(() -> Made.through(1, 2, 3), "secret", 4, 8);
        Twin.state("DESTROY has not come yet", RefusedCallsTest::closed, "secret", 1, 8);
        notRefused(RefusedCallsTest::building, "secret", 1, 8);
        notRefused(() -> Twin.after(RefusedCallsTest::closed, new Call("deliver", 1)), "secret", 1, 8);
    }

    /** Promise 3: "IndexOutOfBoundsException", before the others. */
    private static void createOfNoCircuitOrRelay() {
        for (int circuit : NO_CIRCUITS) {
            Twin.index("no such circuit", OnionCells::new, "create", circuit, 1, 5);
            Twin.index("no such circuit, x is none", OnionCells::new, "create", circuit, 1, 0);
        }
        for (int relay : NO_RELAYS) {
            Twin.index("no such relay", OnionCells::new, "create", 1, relay, 5);
            Twin.index("no such relay, x is none", OnionCells::new, "create", 1, relay, 0);
            Twin.index("no such relay, READY", RefusedCallsTest::ready, "create", 0, relay, 5);
        }
        for (int i = 0; i < 4; i++) {
            notRefused(OnionCells::new, "create", i, 1 + i, 5);
        }
    }

    /** Promise 3: "IllegalArgumentException: x is not 1 .. 65519", before IllegalStateException. */
    private static void createWithNoExponent() {
        for (int x : NO_EXPONENTS) {
            Twin.argument("NONE", OnionCells::new, "create", 0, 1, x);
            Twin.argument("BUILDING", RefusedCallsTest::building, "create", 0, 1, x);
            Twin.argument("READY", RefusedCallsTest::ready, "create", 0, 1, x);
        }
        notRefused(OnionCells::new, "create", 0, 1, 1);
        notRefused(OnionCells::new, "create", 0, 1, 65519);
    }

    /** Promise 3: "IllegalStateException: it is BUILDING or READY." */
    private static void createOfOneThatLives() {
        Twin.state("BUILDING", RefusedCallsTest::building, "create", 0, 2, 6);
        Twin.state("READY", RefusedCallsTest::ready, "create", 0, 3, 6);
        Twin.state("BUILDING with hops", RefusedCallsTest::extending, "create", 0, 4, 6);
        notRefused(RefusedCallsTest::ready, "create", 1, 3, 6);
        notRefused(RefusedCallsTest::closed, "create", 0, 3, 6);
        notRefused(RefusedCallsTest::closedWithoutHop, "create", 0, 1, 6);
    }

    /** Promise 4: "IndexOutOfBoundsException", before the others. */
    private static void extendOfNoCircuitOrRelay() {
        for (int circuit : NO_CIRCUITS) {
            Twin.index("no such circuit", RefusedCallsTest::ready, "extend", circuit, 3, 5);
            Twin.index("no such circuit, x is none", RefusedCallsTest::ready, "extend", circuit, 3, 0);
        }
        for (int relay : NO_RELAYS) {
            Twin.index("no such relay", RefusedCallsTest::ready, "extend", 0, relay, 5);
            Twin.index("no such relay, x is none", RefusedCallsTest::ready, "extend", 0, relay, 0);
            Twin.index("no such relay, NONE", OnionCells::new, "extend", 0, relay, 5);
        }
        notRefused(() -> Made.through(1, 2), "extend", 0, 4, 5);
        notRefused(() -> Made.through(4, 2), "extend", 0, 1, 5);
    }

    /** Promise 4: "IllegalArgumentException, before IllegalStateException: x is not 1 .. 65519". */
    private static void extendWithNoExponent() {
        for (int x : NO_EXPONENTS) {
            Twin.argument("READY", RefusedCallsTest::ready, "extend", 0, 3, x);
            Twin.argument("NONE", OnionCells::new, "extend", 0, 3, x);
            Twin.argument("BUILDING", RefusedCallsTest::extending, "extend", 0, 4, x);
        }
        notRefused(RefusedCallsTest::ready, "extend", 0, 3, 1);
        notRefused(RefusedCallsTest::ready, "extend", 0, 3, 65519);
    }

    /** Promise 4: "IllegalArgumentException, before ..: the relay is one of its hops (of a CLOSED one, too)". */
    private static void extendToAHop() {
        for (int relay = 1; relay <= 3; relay++) {
            Twin.argument("a hop of three", () -> Made.through(1, 2, 3), "extend", 0, relay, 5);
            Twin.argument("a hop of a CLOSED one", () -> Twin.after(() -> Made.through(1, 2, 3), new Call("close", 0)),
                    "extend", 0, relay, 5);
        }
        Twin.argument("a hop of one READY", RefusedCallsTest::ready, "extend", 0, 1, 5);
        Twin.argument("the last hop of one READY", RefusedCallsTest::ready, "extend", 0, 2, 5);
        Twin.argument("a hop of one BUILDING", RefusedCallsTest::extending, "extend", 0, 2, 5);
        notRefused(() -> Twin.after(RefusedCallsTest::ready, new Call("truncate", 0, 0), new Call("deliver", 100)),
                "extend", 0, 2, 5);
    }

    /** Promise 4: "IllegalStateException: it is not READY". */
    private static void extendOfOneNotReady() {
        Twin.state("NONE", OnionCells::new, "extend", 0, 1, 5);
        Twin.state("another is READY", RefusedCallsTest::ready, "extend", 1, 3, 5);
        Twin.state("BUILDING without a hop, to the one waited for", RefusedCallsTest::building, "extend", 0, 1, 5);
        Twin.state("BUILDING, to the one waited for", RefusedCallsTest::extending, "extend", 0, 3, 5);
        Twin.state("BUILDING, to another", RefusedCallsTest::extending, "extend", 0, 4, 5);
        Twin.state("CLOSED", RefusedCallsTest::closed, "extend", 0, 3, 5);
        Twin.state("CLOSED without a hop", RefusedCallsTest::closedWithoutHop, "extend", 0, 1, 5);
        Twin.state("BUILDING anew, to an old hop",
                () -> Twin.after(RefusedCallsTest::closed, new Call("create", 0, 3, 5)), "extend", 0, 1, 5);
    }

    /** Promise 4: "IllegalStateException: it .. has three hops." */
    private static void extendOfThreeHops() {
        Twin.state("three hops", () -> Made.through(1, 2, 3), "extend", 0, 4, 5);
    }

    /** Promise 5: "IndexOutOfBoundsException (circuit, stream)", before IllegalStateException. */
    private static void beginOfNoCircuitOrStream() {
        for (int circuit : NO_CIRCUITS) {
            Twin.index("no such circuit", RefusedCallsTest::ready, "begin", circuit, 1, 0);
            Twin.index("no such circuit or hop", RefusedCallsTest::ready, "begin", circuit, 1, 9);
        }
        for (int stream : NO_STREAMS) {
            Twin.index("no such stream", RefusedCallsTest::ready, "begin", 0, stream, 0);
            Twin.index("no such stream or hop", RefusedCallsTest::ready, "begin", 0, stream, 2);
            Twin.index("no such stream, NONE", RefusedCallsTest::ready, "begin", 1, stream, 0);
        }
        for (int stream = 1; stream <= 3; stream++) {
            notRefused(RefusedCallsTest::ready, "begin", 0, stream, 0);
        }
    }

    /** Promise 5: "IllegalStateException: the circuit is not READY". */
    private static void beginOfOneNotReady() {
        Twin.state("NONE", OnionCells::new, "begin", 0, 1, 0);
        Twin.state("another is READY", RefusedCallsTest::ready, "begin", 1, 1, 0);
        Twin.state("BUILDING", RefusedCallsTest::building, "begin", 0, 1, 0);
        Twin.state("BUILDING with hops", RefusedCallsTest::extending, "begin", 0, 1, 0);
        Twin.state("CLOSED", RefusedCallsTest::closed, "begin", 0, 1, 0);
    }

    /** Promise 5: "IllegalStateException: .. there is no such hop". */
    private static void beginToNoHop() {
        for (int hop : new int[] {MIN, -1, 2, 3, MAX}) {
            Twin.state("two hops", RefusedCallsTest::ready, "begin", 0, 1, hop);
        }
        Twin.state("one hop", () -> Made.through(1), "begin", 0, 1, 1);
        Twin.state("three hops", () -> Made.through(1, 2, 3), "begin", 0, 1, 3);
        notRefused(RefusedCallsTest::ready, "begin", 0, 1, 1);
        notRefused(() -> Made.through(1, 2, 3), "begin", 0, 1, 2);
    }

    /** Promise 5: "IllegalStateException: .. the stream is there." */
    private static void beginOfAStreamThatIsThere() {
        Twin.state("ASKED", RefusedCallsTest::asked, "begin", 0, 1, 1);
        Twin.state("ASKED of another hop", RefusedCallsTest::asked, "begin", 0, 1, 0);
        Twin.state("OPEN", RefusedCallsTest::open, "begin", 0, 1, 1);
        Twin.state("OPEN at another hop", RefusedCallsTest::open, "begin", 0, 1, 0);
        notRefused(RefusedCallsTest::open, "begin", 0, 3, 1);
        notRefused(() -> Twin.after(RefusedCallsTest::open, new Call("end", 0, 1)), "begin", 0, 1, 1);
    }

    /** Promise 6: "IndexOutOfBoundsException", before the others. */
    private static void sendOfNoCircuitOrStream() {
        for (int circuit : NO_CIRCUITS) {
            Twin.index("no such circuit", RefusedCallsTest::open, "send", circuit, 1, 1, 1);
            Twin.index("no such circuit, too much", RefusedCallsTest::open, "send", circuit, 1, 8, 256);
        }
        for (int stream : NO_STREAMS) {
            Twin.index("no such stream", RefusedCallsTest::open, "send", 0, stream, 1, 1);
            Twin.index("no such stream, too much", RefusedCallsTest::open, "send", 0, stream, 8, 256);
        }
    }

    /** Promise 6: "IllegalArgumentException: n is not 0 .. 7", before IllegalStateException. */
    private static void sendOfTooMuch() {
        for (int n : new int[] {MIN, -1, 8, MAX}) {
            Twin.argument("OPEN", RefusedCallsTest::open, "send", 0, 1, n, 1);
            Twin.argument("ASKED", RefusedCallsTest::open, "send", 0, 2, n, 1);
            Twin.argument("NONE", OnionCells::new, "send", 0, 1, n, 1);
        }
        notRefused(RefusedCallsTest::open, "send", 0, 1, 0, 1);
        notRefused(RefusedCallsTest::open, "send", 0, 1, 7, 1);
    }

    /** Promise 6: "IllegalArgumentException: .. v no byte", before IllegalStateException. */
    private static void sendOfNoByte() {
        for (int v : NO_BYTES) {
            Twin.argument("OPEN", RefusedCallsTest::open, "send", 0, 1, 1, v);
            Twin.argument("OPEN, no bytes are sent", RefusedCallsTest::open, "send", 0, 1, 0, v);
            Twin.argument("not there", RefusedCallsTest::open, "send", 0, 3, 1, v);
        }
        notRefused(RefusedCallsTest::open, "send", 0, 1, 1, 0);
        notRefused(RefusedCallsTest::open, "send", 0, 1, 7, 255);
    }

    /** Promise 6: "IllegalStateException: the stream is not OPEN". */
    private static void sendOfOneNotOpen() {
        Twin.state("NONE", OnionCells::new, "send", 0, 1, 1, 1);
        Twin.state("not there", RefusedCallsTest::open, "send", 0, 3, 1, 1);
        Twin.state("ASKED", RefusedCallsTest::open, "send", 0, 2, 1, 1);
        Twin.state("of another circuit", RefusedCallsTest::open, "send", 1, 1, 1, 1);
        Twin.state("ended", () -> Twin.after(RefusedCallsTest::open, new Call("end", 0, 1)), "send", 0, 1, 1, 1);
        Twin.state("CLOSED", () -> Twin.after(RefusedCallsTest::open, new Call("close", 0)), "send", 0, 1, 1, 1);
    }

    /** Promise 6: "IllegalStateException: .. its window is 0." */
    private static void sendWithoutWindow() {
        Call one = new Call("send", 0, 1, 1, 1);
        Twin.state("four are sent", () -> Twin.after(RefusedCallsTest::open, one, one, one), "send", 0, 1, 1, 1);
        Twin.state("four are sent, none now", () -> Twin.after(RefusedCallsTest::open, one, one, one),
                "send", 0, 1, 0, 0);
        notRefused(() -> Twin.after(RefusedCallsTest::open, one, one), "send", 0, 1, 1, 1);
    }

    /** Promise 7: "IndexOutOfBoundsException". */
    private static void endOfNoCircuitOrStream() {
        for (int circuit : NO_CIRCUITS) {
            Twin.index("no such circuit", RefusedCallsTest::open, "end", circuit, 1);
        }
        for (int stream : NO_STREAMS) {
            Twin.index("no such stream", RefusedCallsTest::open, "end", 0, stream);
            Twin.index("no such stream, NONE", OnionCells::new, "end", 0, stream);
        }
    }

    /** Promise 7: "IllegalStateException: it is not there." */
    private static void endOfNothing() {
        Twin.state("NONE", OnionCells::new, "end", 0, 1);
        Twin.state("not there", RefusedCallsTest::open, "end", 0, 3);
        Twin.state("ended", () -> Twin.after(RefusedCallsTest::open, new Call("end", 0, 1)), "end", 0, 1);
        Twin.state("CLOSED", () -> Twin.after(RefusedCallsTest::open, new Call("close", 0)), "end", 0, 1);
        notRefused(RefusedCallsTest::open, "end", 0, 1);
        notRefused(RefusedCallsTest::open, "end", 0, 2);
    }

    /** Promise 8: "IndexOutOfBoundsException (circuit)", before IllegalStateException. */
    private static void truncateOfNoCircuit() {
        for (int circuit : NO_CIRCUITS) {
            Twin.index("no such circuit", RefusedCallsTest::ready, "truncate", circuit, 0);
            Twin.index("no such circuit or hop", RefusedCallsTest::ready, "truncate", circuit, 9);
        }
    }

    /** Promise 8: "IllegalStateException: it is neither". */
    private static void truncateOfOneThatDoesNotLive() {
        Twin.state("NONE", OnionCells::new, "truncate", 0, 0);
        Twin.state("another is READY", RefusedCallsTest::ready, "truncate", 1, 0);
        Twin.state("CLOSED", RefusedCallsTest::closed, "truncate", 0, 0);
        notRefused(RefusedCallsTest::ready, "truncate", 0, 0);
        notRefused(RefusedCallsTest::extending, "truncate", 0, 0);
    }

    /** Promise 8: "IllegalStateException: .. there is no such hop." */
    private static void truncateToNoHop() {
        for (int hop : new int[] {MIN, -1, 2, 3, MAX}) {
            Twin.state("two hops", RefusedCallsTest::ready, "truncate", 0, hop);
        }
        Twin.state("BUILDING without a hop", RefusedCallsTest::building, "truncate", 0, 0);
        Twin.state("BUILDING with two hops", RefusedCallsTest::extending, "truncate", 0, 2);
        Twin.state("three hops", () -> Made.through(1, 2, 3), "truncate", 0, 3);
        notRefused(RefusedCallsTest::extending, "truncate", 0, 1);
        notRefused(() -> Made.through(1, 2, 3), "truncate", 0, 2);
    }

    /** Promise 9: "IndexOutOfBoundsException". */
    private static void closeOfNoCircuit() {
        for (int circuit : NO_CIRCUITS) {
            Twin.index("no such circuit", RefusedCallsTest::ready, "close", circuit);
        }
    }

    /** Promise 9: "IllegalStateException: it is neither BUILDING nor READY." */
    private static void closeOfOneThatDoesNotLive() {
        Twin.state("NONE", OnionCells::new, "close", 3);
        Twin.state("another is READY", RefusedCallsTest::ready, "close", 1);
        Twin.state("CLOSED", RefusedCallsTest::closed, "close", 0);
        Twin.state("CLOSED without a hop", RefusedCallsTest::closedWithoutHop, "close", 0);
        notRefused(RefusedCallsTest::building, "close", 0);
        notRefused(RefusedCallsTest::ready, "close", 0);
        notRefused(RefusedCallsTest::extending, "close", 0);
    }

    /** Promise 10: "IllegalArgumentException: n is not 1 .. 100." */
    private static void deliverTooFewOrTooMany() {
        for (int n : new int[] {MIN, -1, 0, 101, MAX}) {
            Twin.argument("cells are on their way", RefusedCallsTest::open, "deliver", n);
            Twin.argument("no cell is on its way", OnionCells::new, "deliver", n);
        }
        notRefused(RefusedCallsTest::open, "deliver", 1);
        notRefused(RefusedCallsTest::open, "deliver", 100);
        notRefused(OnionCells::new, "deliver", 1);
    }

    /** Promise 11: "IndexOutOfBoundsException", before IllegalArgumentException. */
    private static void damageOfNoCellOrByte() {
        for (int i : new int[] {MIN, -1, 2, 20, MAX}) {
            Twin.index("two cells", RefusedCallsTest::open, "damage", i, 0, 1);
            Twin.index("two cells, no byte", RefusedCallsTest::open, "damage", i, 0, 256);
        }
        Twin.index("no cell", OnionCells::new, "damage", 0, 0, 1);
        for (int k : new int[] {MIN, -1, 14, MAX}) {
            Twin.index("no such byte", RefusedCallsTest::open, "damage", 0, k, 1);
            Twin.index("no such byte, no mask", RefusedCallsTest::open, "damage", 0, k, -1);
        }
        notRefused(RefusedCallsTest::open, "damage", 0, 0, 1);
        notRefused(RefusedCallsTest::open, "damage", 1, 13, 1);
    }

    /** Promise 11: "IllegalArgumentException: mask is no byte." */
    private static void damageWithNoByte() {
        for (int mask : NO_BYTES) {
            Twin.argument("two cells", RefusedCallsTest::open, "damage", 1, 13, mask);
        }
        notRefused(RefusedCallsTest::open, "damage", 0, 0, 0);
        notRefused(RefusedCallsTest::open, "damage", 0, 0, 255);
    }

    /** Promise 12: "IndexOutOfBoundsException." */
    private static void loseNoCell() {
        for (int i : new int[] {MIN, -1, 2, 20, MAX}) {
            Twin.index("two cells", RefusedCallsTest::open, "lose", i);
        }
        Twin.index("no cell", OnionCells::new, "lose", 0);
        notRefused(RefusedCallsTest::open, "lose", 0);
        notRefused(RefusedCallsTest::open, "lose", 1);
    }

    /** Promise 13: "IndexOutOfBoundsException." */
    private static void cellOfNoCellOrPlace() {
        for (int i : new int[] {MIN, -1, 2, 20, MAX}) {
            Twin.index("two cells", RefusedCallsTest::open, "cell", i, 0);
        }
        Twin.index("no cell", OnionCells::new, "cell", 0, 0);
        for (int what : new int[] {MIN, -1, 19, MAX}) {
            Twin.index("no such place", RefusedCallsTest::open, "cell", 1, what);
        }
        notRefused(RefusedCallsTest::open, "cell", 1, 0);
        notRefused(RefusedCallsTest::open, "cell", 1, 18);
    }

    /** Promise 14: "IndexOutOfBoundsException." */
    private static void circuitOfNoCircuitOrPlace() {
        for (int circuit : NO_CIRCUITS) {
            Twin.index("no such circuit", RefusedCallsTest::open, "circuit", circuit, 0);
        }
        for (int what : new int[] {MIN, -1, 12, MAX}) {
            Twin.index("no such place", RefusedCallsTest::open, "circuit", 0, what);
            Twin.index("no such place, NONE", RefusedCallsTest::open, "circuit", 3, what);
        }
        notRefused(RefusedCallsTest::open, "circuit", 3, 0);
        notRefused(RefusedCallsTest::open, "circuit", 0, 11);
    }

    /** Promise 15: "IndexOutOfBoundsException: there is no such circuit, hop or key." */
    private static void keyOfNoCircuitHopOrKey() {
        for (int circuit : NO_CIRCUITS) {
            Twin.index("no such circuit", RefusedCallsTest::ready, "key", circuit, 0, 0);
        }
        for (int hop : new int[] {MIN, -1, 2, 3, MAX}) {
            Twin.index("two hops", RefusedCallsTest::ready, "key", 0, hop, 0);
            Twin.index("two hops of a CLOSED one", RefusedCallsTest::closed, "key", 0, hop, 0);
        }
        Twin.index("three hops", () -> Made.through(1, 2, 3), "key", 0, 3, 0);
        Twin.index("NONE", OnionCells::new, "key", 0, 0, 0);
        Twin.index("BUILDING without a hop", RefusedCallsTest::building, "key", 0, 0, 0);
        for (int k : new int[] {MIN, -1, 4, MAX}) {
            Twin.index("no such key", RefusedCallsTest::ready, "key", 0, 1, k);
        }
        notRefused(RefusedCallsTest::ready, "key", 0, 1, 3);
        notRefused(RefusedCallsTest::closed, "key", 0, 1, 0);
        notRefused(RefusedCallsTest::extending, "key", 0, 1, 0);
    }

    /** Promise 16: "IndexOutOfBoundsException." */
    private static void relayOfNoRelayCircuitOrPlace() {
        for (int relay : NO_RELAYS) {
            Twin.index("no such relay", RefusedCallsTest::ready, "relay", relay, 0, 0);
        }
        for (int circuit : NO_CIRCUITS) {
            Twin.index("no such circuit", RefusedCallsTest::ready, "relay", 1, circuit, 0);
        }
        for (int what : new int[] {MIN, -1, 11, MAX}) {
            Twin.index("no such place", RefusedCallsTest::ready, "relay", 1, 0, what);
            Twin.index("no such place, not there", RefusedCallsTest::ready, "relay", 4, 3, what);
        }
        notRefused(RefusedCallsTest::ready, "relay", 1, 0, 10);
        notRefused(RefusedCallsTest::ready, "relay", 4, 3, 0);
    }

    /** Promise 17: "IndexOutOfBoundsException: there is no such circuit." */
    private static void dataOfNoCircuit() {
        for (int circuit : NO_CIRCUITS) {
            Twin.index("no such circuit", RefusedCallsTest::open, "data", circuit, 0);
        }
        for (int i : new int[] {MIN, -1, 0, 7, MAX}) {
            notRefused(OnionCells::new, "data", 3, i);
            notRefused(() -> Twin.after(RefusedCallsTest::open, new Call("deliver", 100)), "data", 0, i);
        }
    }

    /** Promise 18: "IndexOutOfBoundsException: none of these." */
    private static void countOfNothing() {
        for (int what : new int[] {MIN, -1, 5, MAX}) {
            Twin.index("none of these", RefusedCallsTest::open, "count", what);
        }
        notRefused(RefusedCallsTest::open, "count", 0);
        notRefused(RefusedCallsTest::open, "count", 4);
    }
}
