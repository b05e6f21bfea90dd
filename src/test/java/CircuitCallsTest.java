/** secret, create, extend, truncate, close, key and circuit: promises 2, 3, 4, 8, 9, 14 and 15. */
public final class CircuitCallsTest {
    private CircuitCallsTest() {
    }

    public static void main(String[] args) {
        secretAnswersTheKey();
        secretRefuses();
        secretCountsInTheAgreement();
        createSends();
        createRefuses();
        createsAnsweredCount();
        createAnewForgets();
        extendSends();
        extendedAgreement();
        extendRefuses();
        truncateSends();
        truncateCutsOff();
        truncateEndsBuilding();
        truncateRefuses();
        closeSends();
        closeWithoutHop();
        closeWhileExtending();
        closeRefuses();
        viewsRefuse();
        Check.finish();
    }

    private static void secretAnswersTheKey() {
        OnionCells x = new OnionCells();
        Check.is("secret(1, 1)", x.secret(1, 1), 17);
        Check.is("secret(2, 2)", x.secret(2, 2), 289);
        Check.is("secret(3, 65519)", x.secret(3, 65519), Inside.raise(17, 65519));
        Check.is("secret(4, 4242)", x.secret(4, 4242), 50290);
    }

    private static void secretRefuses() {
        OnionCells x = new OnionCells();
        Check.index("secret(0, 0)", () -> x.secret(0, 0));
        Check.index("secret(5, 1)", () -> x.secret(5, 1));
        Check.index("secret(-1, 1)", () -> x.secret(-1, 1));
        Check.argument("secret(1, 0)", () -> x.secret(1, 0));
        Check.argument("secret(1, 65520)", () -> x.secret(1, 65520));
        Check.argument("secret(1, -5)", () -> x.secret(1, -5));
        x.create(3, 1, 5);
        Check.is("secret while CREATE is on its way", x.secret(1, 7), Inside.raise(17, 7));
        x.deliver(1);
        Check.argument("secret(1, 0) of a used relay", () -> x.secret(1, 0));
        Check.state("secret of a used relay", () -> x.secret(1, 8));
        Check.is("secret of another relay", x.secret(2, 8), Inside.raise(17, 8));
        x.close(3);
        x.deliver(2);
        Check.is("secret of a relay that is free again", x.secret(1, 8), Inside.raise(17, 8));
        for (int circuit = 0; circuit < 4; circuit++) {
            OnionCells y = new OnionCells();
            y.create(circuit, 3, 5);
            y.deliver(1);
            Check.state("secret with circuit " + circuit, () -> y.secret(3, 8));
        }
    }

    private static void secretCountsInTheAgreement() {
        OnionCells x = new OnionCells();
        x.secret(2, 31);
        x.create(0, 2, 44);
        x.deliver(2);
        keysAre(x, 0, 0, 2, Inside.agreed(2, 31, Inside.raise(17, 44), 0));
    }

    private static void keysAre(OnionCells x, int circuit, int hop, int node, int h) {
        for (int k = 0; k < 4; k++) {
            Check.is("key " + k + " of hop " + hop, x.key(circuit, hop, k), Inside.key(h, k));
            Check.is("key " + k + " at relay " + node, x.relay(node, circuit, 7 + k), Inside.key(h, k));
        }
    }

    private static void createSends() {
        OnionCells x = new OnionCells();
        Check.is("create(2, 3, 65519)", x.create(2, 3, 65519), 1);
        int publicX = Inside.raise(17, 65519);
        cellIs(x, 0, 0, 3, 2, 1, publicX >> 8, publicX & 255);
        Check.is("BUILDING", x.circuit(2, 0), OnionCells.BUILDING);
        Check.is("waits", x.circuit(2, 5), 3);
        Check.is("no hop", x.circuit(2, 1), 0);
        Check.is("a second one", x.create(0, 3, 1), 2);
        cellIs(x, 1, 0, 3, 0, 1, 0, 17);
        x.deliver(1);
        int h = Inside.agreed(3, 3000, publicX, 0);
        int publicY = Inside.publicY(3, publicX, 0);
        cellIs(x, 1, 3, 0, 2, 2, publicY >> 8, publicY & 255, h >>> 24, h >>> 16 & 255);
        Check.is("there", x.relay(3, 2, 0), 1);
        Check.is("before", x.relay(3, 2, 1), 0);
        Check.is("behind", x.relay(3, 2, 2), -1);
        x.deliver(2);
        Check.is("READY", x.circuit(2, 0), OnionCells.READY);
        Check.is("waits no more", x.circuit(2, 5), -1);
        Check.is("one hop", x.circuit(2, 1), 1);
        Check.is("its relay", x.circuit(2, 2), 3);
        Check.is("no second", x.circuit(2, 3), -1);
        keysAre(x, 2, 0, 3, h);
    }

    private static void cellIs(OnionCells x, int i, int from, int to, int circuit, int command, int... bytes) {
        int[] head = {from, to, circuit, command};
        for (int what = 0; what < 18; what++) {
            int due = what < 4 ? head[what] : what - 4 < bytes.length ? bytes[what - 4] : 0;
            Check.is("cell(" + i + ", " + what + ")", x.cell(i, what), due);
        }
        Check.is("its distance", x.cell(i, 18), 0);
    }

    private static void createRefuses() {
        OnionCells x = new OnionCells();
        Check.index("create(4, 1, 0)", () -> x.create(4, 1, 0));
        Check.index("create(-1, 1, 1)", () -> x.create(-1, 1, 1));
        Check.index("create(0, 0, 1)", () -> x.create(0, 0, 1));
        Check.index("create(0, 5, 1)", () -> x.create(0, 5, 1));
        Check.argument("create(0, 1, 0)", () -> x.create(0, 1, 0));
        Check.argument("create(0, 1, 65520)", () -> x.create(0, 1, 65520));
        Check.is("nothing was sent", x.count(0), 0);
        x.create(0, 1, 1);
        Check.argument("create(0, 1, 0) of one BUILDING", () -> x.create(0, 1, 0));
        Check.state("create of one BUILDING", () -> x.create(0, 2, 1));
        x.deliver(2);
        Check.state("create of one READY", () -> x.create(0, 2, 1));
        Check.is("nothing was sent then", x.count(0), 0);
    }

    private static void createsAnsweredCount() {
        OnionCells x = new OnionCells();
        int publicX = Inside.raise(17, 6);
        for (int answered = 0; answered < 3; answered++) {
            x.create(answered, 4, 6);
            x.deliver(2);
            keysAre(x, answered, 0, 4, Inside.agreed(4, 4000, publicX, answered));
        }
        x.create(3, 4, 6);
        x.damage(0, 0, x.cell(0, 4));
        x.damage(0, 1, x.cell(0, 5));
        x.deliver(2);
        Check.is("closed by the DESTROY that answers X 0", x.circuit(3, 0), OnionCells.CLOSED);
        x.create(3, 4, 6);
        x.deliver(2);
        keysAre(x, 3, 0, 4, Inside.agreed(4, 4000, publicX, 3));
    }

    private static void createAnewForgets() {
        OnionCells x = Made.streaming(1, 1, 1, 2);
        x.send(0, 1, 3, 3);
        x.deliver(100);
        x.close(0);
        x.deliver(100);
        Check.is("data are kept", x.data(0, 0), 252);
        Check.is("create(0, 3, 9)", x.create(0, 3, 9), 1);
        Check.is("no hops", x.circuit(0, 1), 0);
        Check.is("no first relay", x.circuit(0, 2), -1);
        Check.is("no stream", x.circuit(0, 6), 0);
        Check.is("no data", x.data(0, 0), -1);
        Check.index("no keys", () -> x.key(0, 0, 0));
    }

    private static void extendSends() {
        OnionCells x = Made.through(1, 2);
        int digest = x.key(0, 1, 2);
        int outer = x.key(0, 0, 0);
        int inner = x.key(0, 1, 0);
        Check.is("extend(0, 4, 9)", x.extend(0, 4, 9), 1);
        int publicX = Inside.raise(17, 9);
        int[] inside = Inside.sealed(digest, Inside.EXTEND, 0, 3, 4, publicX >> 8, publicX & 255);
        int[] due = Inside.wrapped(outer, Inside.wrapped(inner, inside));
        for (int k = 0; k < 14; k++) {
            Check.is("byte " + k + " of EXTEND", x.cell(0, 4 + k), due[k]);
        }
        Check.is("its sender", x.cell(0, 0), 0);
        Check.is("its receiver", x.cell(0, 1), 1);
        Check.is("RELAY", x.cell(0, 3), 3);
        Check.is("its distance", x.cell(0, 18), 1);
        Check.is("BUILDING", x.circuit(0, 0), OnionCells.BUILDING);
        Check.is("waits", x.circuit(0, 5), 4);
        Check.is("hops", x.circuit(0, 1), 2);
        Check.is("digest key", x.key(0, 1, 2), Inside.digestAfter(digest, inside));
        Check.is("outer key", x.key(0, 0, 0), Inside.keyAfterWrap(outer));
        Check.is("inner key", x.key(0, 1, 0), Inside.keyAfterWrap(inner));
    }

    private static void extendedAgreement() {
        OnionCells x = Made.through(1);
        int publicX = Inside.raise(17, 60000);
        x.extend(0, 3, 60000);
        x.deliver(1);
        cellIs(x, 0, 1, 3, 0, 1, publicX >> 8, publicX & 255);
        Check.is("waited for", x.relay(1, 0, 3), 3);
        int digest = x.relay(1, 0, 10);
        int wrapping = x.relay(1, 0, 8);
        x.deliver(2);
        int h = Inside.agreed(3, 3000, publicX, 0);
        int publicY = Inside.publicY(3, publicX, 0);
        int[] due = Inside.wrapped(wrapping, Inside.sealed(digest, Inside.EXTENDED, 0, 4,
                publicY >> 8, publicY & 255, h >>> 24, h >>> 16 & 255));
        for (int k = 0; k < 14; k++) {
            Check.is("byte " + k + " of EXTENDED", x.cell(0, 4 + k), due[k]);
        }
        Check.is("behind", x.relay(1, 0, 2), 3);
        Check.is("not waited for", x.relay(1, 0, 3), -1);
        Check.is("before", x.relay(3, 0, 1), 1);
        x.deliver(1);
        Check.is("READY", x.circuit(0, 0), OnionCells.READY);
        Check.is("second hop", x.circuit(0, 3), 3);
        Check.is("waits no more", x.circuit(0, 5), -1);
        keysAre(x, 0, 1, 3, h);
        Check.is("both ends have the first hop's key 3", x.key(0, 0, 3), x.relay(1, 0, 10));
    }

    private static void extendRefuses() {
        OnionCells x = Made.through(1, 2, 3);
        Check.index("extend(4, 4, 0)", () -> x.extend(4, 4, 0));
        Check.index("extend(0, 0, 5)", () -> x.extend(0, 0, 5));
        Check.index("extend(0, 5, 5)", () -> x.extend(0, 5, 5));
        Check.argument("extend(0, 4, 0)", () -> x.extend(0, 4, 0));
        Check.argument("extend(0, 4, 65520)", () -> x.extend(0, 4, 65520));
        Check.argument("extend to a hop", () -> x.extend(0, 3, 5));
        Check.state("extend of three hops", () -> x.extend(0, 4, 5));
        Check.state("extend of NONE", () -> x.extend(1, 1, 5));
        x.close(0);
        Check.argument("extend to a hop of a CLOSED one", () -> x.extend(0, 1, 5));
        Check.state("extend of CLOSED", () -> x.extend(0, 4, 5));
        OnionCells y = Made.through(1);
        y.extend(0, 2, 5);
        Check.argument("extend to a hop of one BUILDING", () -> y.extend(0, 1, 5));
        Check.state("extend of one BUILDING", () -> y.extend(0, 2, 5));
        Check.is("only one cell was sent", y.count(0), 1);
    }

    private static void truncateSends() {
        OnionCells x = Made.through(1, 2);
        int digest = x.key(0, 0, 2);
        int outer = x.key(0, 0, 0);
        Check.is("truncate(0, 0)", x.truncate(0, 0), 2);
        int[] due = Inside.wrapped(outer, Inside.sealed(digest, Inside.TRUNCATE, 0, 0));
        for (int k = 0; k < 14; k++) {
            Check.is("byte " + k + " of TRUNCATE", x.cell(0, 4 + k), due[k]);
        }
        Check.is("its distance", x.cell(0, 18), 0);
        Check.is("still READY", x.circuit(0, 0), OnionCells.READY);
    }

    private static void truncateCutsOff() {
        OnionCells x = Made.through(1, 2, 3);
        x.begin(0, 1, 0);
        x.begin(0, 2, 1);
        x.begin(0, 3, 2);
        x.deliver(100);
        Check.is("truncate(0, 1)", x.truncate(0, 1), 3);
        x.deliver(2);
        Check.is("DESTROY first", x.cell(0, 3), 4);
        Check.is("to the node behind", x.cell(0, 1), 3);
        Check.is("TRUNCATED then", x.cell(1, 3), 3);
        Check.is("none behind", x.relay(2, 0, 2), -1);
        x.deliver(100);
        Check.is("gone at relay 3", x.relay(3, 0, 0), 0);
        Check.is("there at relay 2", x.relay(2, 0, 0), 1);
        Check.is("hops", x.circuit(0, 1), 2);
        Check.is("no third", x.circuit(0, 4), -1);
        Check.index("no keys of the third", () -> x.key(0, 2, 0));
        Check.is("stream 1", x.circuit(0, 6), 2);
        Check.is("stream 2", x.circuit(0, 7), 2);
        Check.is("stream 3", x.circuit(0, 8), 0);
        Check.is("its window", x.circuit(0, 11), 0);
        Check.is("extend again", x.extend(0, 4, 7), 1);
        x.deliver(100);
        Check.is("the new third", x.circuit(0, 4), 4);
    }

    private static void truncateEndsBuilding() {
        OnionCells x = Made.through(1);
        x.extend(0, 2, 5);
        x.deliver(1);
        Check.is("truncate(0, 0) while BUILDING", x.truncate(0, 0), 1);
        x.deliver(2);
        Check.is("none waited for", x.relay(1, 0, 3), -1);
        x.deliver(3);
        Check.is("CREATED was stray", x.count(3), 1);
        Check.is("READY", x.circuit(0, 0), OnionCells.READY);
        Check.is("waits no more", x.circuit(0, 5), -1);
        Check.is("gone at the one that was waited for", x.relay(2, 0, 0), 0);
    }

    private static void truncateRefuses() {
        OnionCells x = Made.through(1, 2);
        Check.index("truncate(4, 9)", () -> x.truncate(4, 9));
        Check.index("truncate(-1, 0)", () -> x.truncate(-1, 0));
        Check.state("truncate(0, 2)", () -> x.truncate(0, 2));
        Check.state("truncate(0, -1)", () -> x.truncate(0, -1));
        Check.state("truncate of NONE", () -> x.truncate(1, 0));
        x.create(1, 1, 4);
        Check.state("truncate without hops", () -> x.truncate(1, 0));
        x.close(0);
        Check.state("truncate of CLOSED", () -> x.truncate(0, 0));
    }

    private static void closeSends() {
        OnionCells x = Made.streaming(3, 0, 1, 2);
        int kept = x.key(0, 1, 2);
        x.close(0);
        cellIs(x, 0, 0, 1, 0, 4);
        Check.is("CLOSED", x.circuit(0, 0), OnionCells.CLOSED);
        Check.is("hops are kept", x.circuit(0, 1), 2);
        Check.is("the second", x.circuit(0, 3), 2);
        Check.is("keys are kept", x.key(0, 1, 2), kept);
        Check.is("no stream", x.circuit(0, 8), 0);
        Check.is("no window", x.circuit(0, 11), 0);
        x.deliver(1);
        cellIs(x, 0, 1, 2, 0, 4);
        Check.is("gone at relay 1", x.relay(1, 0, 0), 0);
        x.deliver(1);
        Check.is("gone at relay 2", x.relay(2, 0, 0), 0);
        Check.is("nothing on its way", x.count(0), 0);
        Check.is("nothing stray", x.count(3), 0);
    }

    private static void closeWithoutHop() {
        OnionCells x = new OnionCells();
        x.create(1, 3, 5);
        x.close(1);
        cellIs(x, 1, 0, 3, 1, 4);
        Check.is("waits for none", x.circuit(1, 5), -1);
        Check.is("no hops", x.circuit(1, 1), 0);
        x.deliver(3);
        Check.is("CREATED is stray", x.count(3), 1);
        Check.is("still CLOSED", x.circuit(1, 0), OnionCells.CLOSED);
        Check.is("gone at relay 3", x.relay(3, 1, 0), 0);
    }

    private static void closeWhileExtending() {
        OnionCells x = Made.through(1);
        x.extend(0, 2, 5);
        x.deliver(1);
        x.close(0);
        cellIs(x, 1, 0, 1, 0, 4);
        x.deliver(2);
        Check.is("CREATED, and DESTROY to the one waited for", x.count(0), 2);
        cellIs(x, 1, 1, 2, 0, 4);
        x.deliver(100);
        Check.is("gone at relay 2", x.relay(2, 0, 0), 0);
    }

    private static void closeRefuses() {
        OnionCells x = Made.through(1);
        Check.index("close(4)", () -> x.close(4));
        Check.index("close(-1)", () -> x.close(-1));
        Check.state("close of NONE", () -> x.close(1));
        x.close(0);
        Check.state("close of CLOSED", () -> x.close(0));
        Check.is("one DESTROY alone", x.count(0), 1);
    }

    private static void viewsRefuse() {
        OnionCells x = Made.through(1);
        Check.index("circuit(4, 0)", () -> x.circuit(4, 0));
        Check.index("circuit(-1, 0)", () -> x.circuit(-1, 0));
        Check.index("circuit(0, 12)", () -> x.circuit(0, 12));
        Check.index("circuit(0, -1)", () -> x.circuit(0, -1));
        Check.index("key(4, 0, 0)", () -> x.key(4, 0, 0));
        Check.index("key(0, 1, 0)", () -> x.key(0, 1, 0));
        Check.index("key(0, -1, 0)", () -> x.key(0, -1, 0));
        Check.index("key(0, 0, 4)", () -> x.key(0, 0, 4));
        Check.index("key(0, 0, -1)", () -> x.key(0, 0, -1));
    }
}
