/** secret, create, extend, truncate, close, key and circuit: promises 2, 3, 4, 8, 9, 14 and 15. */
public final class CircuitCallsTest {
    private CircuitCallsTest() {
    }

    public static void main(String[] args) {
        secretAnswersTheKey();
        secretCountsInTheAgreement();
        createSends();
        createAnewForgets();
        extendSends();
        extendedAgreement();
        truncateSends();
        truncateCutsOff();
        truncateEndsBuilding();
        closeSends();
        closeWithoutHop();
        closeWhileExtending();
        circuitTellsHops();
        circuitTellsTheOneWaitedFor();
        circuitTellsWindows();
        keysOfAClosedOne();
        Check.finish();
    }

    /** Promise 2: "A relay's secret becomes b: its KEY B." */
    private static void secretAnswersTheKey() {
        OnionCells x = new OnionCells();
        Check.is("secret(1, 1)", x.secret(1, 1), 17);
        Check.is("secret(2, 2)", x.secret(2, 2), 289);
        Check.is("secret(3, 65519)", x.secret(3, 65519), Inside.raise(17, 65519));
        Check.is("secret(4, 4242)", x.secret(4, 4242), 50290);
    }

    private static void secretCountsInTheAgreement() {
        OnionCells x = new OnionCells();
        x.secret(2, 31);
        x.create(0, 2, 44);
        x.deliver(2);
        keysAre(x, 0, 0, 2, Inside.agreed(2, 31, Inside.raise(17, 44), 0));
    }

    private static void keysAre(OnionCells x, int circuit, int hop, int node, int h) {
        for (int k = 0; k < 4; k++) {
            Check.is("key " + k + " of hop " + hop, x.key(circuit, hop, k), Inside.key(h, k));
            Check.is("key " + k + " at relay " + node, x.relay(node, circuit, 7 + k), Inside.key(h, k));
        }
    }

    /** Promise 3: "CREATE, with the client's exponent x, to a relay, which it waits for; BUILDING: how many cells". */
    private static void createSends() {
        OnionCells x = new OnionCells();
        Check.is("create(2, 3, 65519)", x.create(2, 3, 65519), 1);
        int publicX = Inside.raise(17, 65519);
        cellIs(x, 0, 0, 3, 2, 1, publicX >> 8, publicX & 255);
        Check.is("BUILDING", x.circuit(2, 0), OnionCells.BUILDING);
        Check.is("waits", x.circuit(2, 5), 3);
        Check.is("no hop", x.circuit(2, 1), 0);
        Check.is("a second one", x.create(0, 3, 1), 2);
        cellIs(x, 1, 0, 3, 0, 1, 0, 17);
        x.deliver(1);
        int h = Inside.agreed(3, 3000, publicX, 0);
        int publicY = Inside.publicY(3, publicX, 0);
        cellIs(x, 1, 3, 0, 2, 2, publicY >> 8, publicY & 255, h >>> 24, h >>> 16 & 255);
        Check.is("there", x.relay(3, 2, 0), 1);
        Check.is("before", x.relay(3, 2, 1), 0);
        Check.is("behind", x.relay(3, 2, 2), -1);
        x.deliver(2);
        Check.is("READY", x.circuit(2, 0), OnionCells.READY);
        Check.is("waits no more", x.circuit(2, 5), -1);
        Check.is("one hop", x.circuit(2, 1), 1);
        Check.is("its relay", x.circuit(2, 2), 3);
        Check.is("no second", x.circuit(2, 3), -1);
        keysAre(x, 2, 0, 3, h);
    }

    private static void cellIs(OnionCells x, int i, int from, int to, int circuit, int command, int... bytes) {
        int[] head = {from, to, circuit, command};
        for (int what = 0; what < 18; what++) {
            int due = what < 4 ? head[what] : what - 4 < bytes.length ? bytes[what - 4] : 0;
            Check.is("cell(" + i + ", " + what + ")", x.cell(i, what), due);
        }
        Check.is("its distance", x.cell(i, 18), 0);
    }

    /** Promise 3: "A circuit that is NONE or CLOSED is begun anew, without hops and streams". */
    private static void createAnewForgets() {
        OnionCells x = Made.streaming(1, 1, 1, 2);
        x.send(0, 1, 3, 3);
        x.deliver(100);
        x.close(0);
        x.deliver(100);
        Check.is("data are kept", x.data(0, 0), 252);
        Check.is("create(0, 3, 9)", x.create(0, 3, 9), 1);
        Check.is("no hops", x.circuit(0, 1), 0);
        Check.is("no first relay", x.circuit(0, 2), -1);
        Check.is("no stream", x.circuit(0, 6), 0);
        Check.is("no data", x.data(0, 0), -1);
        Check.index("no keys", () -> x.key(0, 0, 0));
    }

    /** Promise 4: "EXTEND, with the exponent x, to the last hop of a READY circuit, which waits for that relay". */
    private static void extendSends() {
        OnionCells x = Made.through(1, 2);
        int digest = x.key(0, 1, 2);
        int outer = x.key(0, 0, 0);
        int inner = x.key(0, 1, 0);
        Check.is("extend(0, 4, 9)", x.extend(0, 4, 9), 1);
        int publicX = Inside.raise(17, 9);
        int[] inside = Inside.sealed(digest, Inside.EXTEND, 0, 3, 4, publicX >> 8, publicX & 255);
        int[] due = Inside.wrapped(outer, Inside.wrapped(inner, inside));
        for (int k = 0; k < 14; k++) {
            Check.is("byte " + k + " of EXTEND", x.cell(0, 4 + k), due[k]);
        }
        Check.is("its sender", x.cell(0, 0), 0);
        Check.is("its receiver", x.cell(0, 1), 1);
        Check.is("RELAY", x.cell(0, 3), 3);
        Check.is("its distance", x.cell(0, 18), 1);
        Check.is("BUILDING", x.circuit(0, 0), OnionCells.BUILDING);
        Check.is("waits", x.circuit(0, 5), 4);
        Check.is("hops", x.circuit(0, 1), 2);
        Check.is("digest key", x.key(0, 1, 2), Inside.digestAfter(digest, inside));
        Check.is("outer key", x.key(0, 0, 0), Inside.keyAfterWrap(outer));
        Check.is("inner key", x.key(0, 1, 0), Inside.keyAfterWrap(inner));
    }

    private static void extendedAgreement() {
        OnionCells x = Made.through(1);
        int publicX = Inside.raise(17, 60000);
        x.extend(0, 3, 60000);
        x.deliver(1);
        cellIs(x, 0, 1, 3, 0, 1, publicX >> 8, publicX & 255);
        Check.is("waited for", x.relay(1, 0, 3), 3);
        int digest = x.relay(1, 0, 10);
        int wrapping = x.relay(1, 0, 8);
        x.deliver(2);
        int h = Inside.agreed(3, 3000, publicX, 0);
        int publicY = Inside.publicY(3, publicX, 0);
        int[] due = Inside.wrapped(wrapping, Inside.sealed(digest, Inside.EXTENDED, 0, 4,
                publicY >> 8, publicY & 255, h >>> 24, h >>> 16 & 255));
        for (int k = 0; k < 14; k++) {
            Check.is("byte " + k + " of EXTENDED", x.cell(0, 4 + k), due[k]);
        }
        Check.is("behind", x.relay(1, 0, 2), 3);
        Check.is("not waited for", x.relay(1, 0, 3), -1);
        Check.is("before", x.relay(3, 0, 1), 1);
        x.deliver(1);
        Check.is("READY", x.circuit(0, 0), OnionCells.READY);
        Check.is("second hop", x.circuit(0, 3), 3);
        Check.is("waits no more", x.circuit(0, 5), -1);
        keysAre(x, 0, 1, 3, h);
        Check.is("both ends have the first hop's key 3", x.key(0, 0, 3), x.relay(1, 0, 10));
    }

    /** Promise 8: "how many hops it has (still)". */
    private static void truncateSends() {
        OnionCells x = Made.through(1, 2);
        int digest = x.key(0, 0, 2);
        int outer = x.key(0, 0, 0);
        Check.is("truncate(0, 0)", x.truncate(0, 0), 2);
        int[] due = Inside.wrapped(outer, Inside.sealed(digest, Inside.TRUNCATE, 0, 0));
        for (int k = 0; k < 14; k++) {
            Check.is("byte " + k + " of TRUNCATE", x.cell(0, 4 + k), due[k]);
        }
        Check.is("its distance", x.cell(0, 18), 0);
        Check.is("still READY", x.circuit(0, 0), OnionCells.READY);
    }

    private static void truncateCutsOff() {
        OnionCells x = Made.through(1, 2, 3);
        x.begin(0, 1, 0);
        x.begin(0, 2, 1);
        x.begin(0, 3, 2);
        x.deliver(100);
        Check.is("truncate(0, 1)", x.truncate(0, 1), 3);
        x.deliver(2);
        Check.is("DESTROY first", x.cell(0, 3), 4);
        Check.is("to the node behind", x.cell(0, 1), 3);
        Check.is("TRUNCATED then", x.cell(1, 3), 3);
        Check.is("none behind", x.relay(2, 0, 2), -1);
        x.deliver(100);
        Check.is("gone at relay 3", x.relay(3, 0, 0), 0);
        Check.is("there at relay 2", x.relay(2, 0, 0), 1);
        Check.is("hops", x.circuit(0, 1), 2);
        Check.is("no third", x.circuit(0, 4), -1);
        Check.index("no keys of the third", () -> x.key(0, 2, 0));
        Check.is("stream 1", x.circuit(0, 6), 2);
        Check.is("stream 2", x.circuit(0, 7), 2);
        Check.is("stream 3", x.circuit(0, 8), 0);
        Check.is("its window", x.circuit(0, 11), 0);
        Check.is("extend again", x.extend(0, 4, 7), 1);
        x.deliver(100);
        Check.is("the new third", x.circuit(0, 4), 4);
    }

    /** Promise 8: "TRUNCATE to a hop of a circuit that is READY or BUILDING". */
    private static void truncateEndsBuilding() {
        OnionCells x = Made.through(1);
        x.extend(0, 2, 5);
        x.deliver(1);
        Check.is("truncate(0, 0) while BUILDING", x.truncate(0, 0), 1);
        x.deliver(2);
        Check.is("none waited for", x.relay(1, 0, 3), -1);
        x.deliver(3);
        Check.is("CREATED was stray", x.count(3), 1);
        Check.is("READY", x.circuit(0, 0), OnionCells.READY);
        Check.is("waits no more", x.circuit(0, 5), -1);
        Check.is("gone at the one that was waited for", x.relay(2, 0, 0), 0);
    }

    /** "CLOSING ..: DESTROY to its first hop ..; it is CLOSED, its streams are not there, its hops are kept." */
    private static void closeSends() {
        OnionCells x = Made.streaming(3, 0, 1, 2);
        int kept = x.key(0, 1, 2);
        x.close(0);
        cellIs(x, 0, 0, 1, 0, 4);
        Check.is("CLOSED", x.circuit(0, 0), OnionCells.CLOSED);
        Check.is("hops are kept", x.circuit(0, 1), 2);
        Check.is("the second", x.circuit(0, 3), 2);
        Check.is("keys are kept", x.key(0, 1, 2), kept);
        Check.is("no stream", x.circuit(0, 8), 0);
        Check.is("no window", x.circuit(0, 11), 0);
        x.deliver(1);
        cellIs(x, 0, 1, 2, 0, 4);
        Check.is("gone at relay 1", x.relay(1, 0, 0), 0);
        x.deliver(1);
        Check.is("gone at relay 2", x.relay(2, 0, 0), 0);
        Check.is("nothing on its way", x.count(0), 0);
        Check.is("nothing stray", x.count(3), 0);
    }

    /** "CLOSING ..: DESTROY to .. (to the relay that it waits for, if it has no hop yet)". */
    private static void closeWithoutHop() {
        OnionCells x = new OnionCells();
        x.create(1, 3, 5);
        x.close(1);
        cellIs(x, 1, 0, 3, 1, 4);
        Check.is("waits for none", x.circuit(1, 5), -1);
        Check.is("no hops", x.circuit(1, 1), 0);
        x.deliver(3);
        Check.is("CREATED is stray", x.count(3), 1);
        Check.is("still CLOSED", x.circuit(1, 0), OnionCells.CLOSED);
        Check.is("gone at relay 3", x.relay(3, 1, 0), 0);
    }

    /** "CLOSING ..: DESTROY to its first hop", not to the relay that it waits for, if it has one. */
    private static void closeWhileExtending() {
        OnionCells x = Made.through(1);
        x.extend(0, 2, 5);
        x.deliver(1);
        x.close(0);
        cellIs(x, 1, 0, 1, 0, 4);
        x.deliver(2);
        Check.is("CREATED, and DESTROY to the one waited for", x.count(0), 2);
        cellIs(x, 1, 1, 2, 0, 4);
        x.deliver(100);
        Check.is("gone at relay 2", x.relay(2, 0, 0), 0);
    }

    private static void circuitIs(OnionCells x, String what, int... due) {
        for (int i = 0; i < due.length; i++) {
            Check.is("circuit(0, " + i + ") " + what, x.circuit(0, i), due[i]);
        }
    }

    /** Promise 14: "2 + k the relay of hop k (NOBODY if there is none)": none, one, two, three, CLOSED and anew. */
    private static void circuitTellsHops() {
        circuitIs(new OnionCells(), "of NONE", 0, 0, -1, -1, -1, -1);
        circuitIs(Made.through(4), "of one hop", 2, 1, 4, -1, -1, -1);
        circuitIs(Made.through(4, 1), "of two hops", 2, 2, 4, 1, -1, -1);
        OnionCells x = Made.through(4, 1, 3);
        circuitIs(x, "of three hops", 2, 3, 4, 1, 3, -1);
        x.close(0);
        circuitIs(x, "of a CLOSED one", 3, 3, 4, 1, 3, -1);
        x.create(0, 2, 5);
        circuitIs(x, "of one begun anew", 1, 0, -1, -1, -1, 2);
        x.close(0);
        circuitIs(x, "of one CLOSED without hops", 3, 0, -1, -1, -1, -1);
    }

    /** Promise 14: "5 the relay that it waits for (NOBODY unless BUILDING)". */
    private static void circuitTellsTheOneWaitedFor() {
        OnionCells x = new OnionCells();
        x.create(0, 4, 5);
        circuitIs(x, "of one BUILDING", 1, 0, -1, -1, -1, 4);
        x.deliver(2);
        circuitIs(x, "of one READY", 2, 1, 4, -1, -1, -1);
        x.extend(0, 1, 5);
        circuitIs(x, "of one BUILDING with a hop", 1, 1, 4, -1, -1, 1);
        x.close(0);
        circuitIs(x, "of one CLOSED while BUILDING", 3, 1, 4, -1, -1, -1);
    }

    /** Promise 14: "5 + s the state of stream s, 8 + s its window (0 unless OPEN)". */
    private static void circuitTellsWindows() {
        for (int s = 1; s <= 3; s++) {
            OnionCells x = Made.through(1);
            streamIs(x, s, 0, 0);
            x.begin(0, s, 0);
            streamIs(x, s, 1, 0);
            x.deliver(2);
            streamIs(x, s, 2, 4);
            for (int left = 3; left >= 0; left--) {
                x.send(0, s, 1, 1);
                streamIs(x, s, 2, left);
            }
            x.deliver(100);
            streamIs(x, s, 2, 4);
            x.end(0, s);
            streamIs(x, s, 0, 0);
        }
    }

    private static void streamIs(OnionCells x, int stream, int state, int window) {
        for (int s = 1; s <= 3; s++) {
            Check.is("state of stream " + s, x.circuit(0, 5 + s), s == stream ? state : 0);
            Check.is("window of stream " + s, x.circuit(0, 8 + s), s == stream ? window : 0);
        }
    }

    /** Promise 15: "Key k (0 .. 3, as it is now) of a hop (of a CLOSED circuit, too)". */
    private static void keysOfAClosedOne() {
        OnionCells x = Made.through(1, 2, 3);
        int[] keys = new int[12];
        for (int i = 0; i < 12; i++) {
            keys[i] = x.key(0, i / 4, i % 4);
        }
        x.close(0);
        x.deliver(100);
        for (int i = 0; i < 12; i++) {
            Check.is("key(0, " + i / 4 + ", " + i % 4 + ") of a CLOSED one", x.key(0, i / 4, i % 4), keys[i]);
        }
    }
}
