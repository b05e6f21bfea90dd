/** What cells and orders do at a relay, and how relay tells it: promises 10 and 16. */
public final class AtRelayTest {
    private AtRelayTest() {
    }

    public static void main(String[] args) {
        createThatDoesNotFit();
        createOfOneThatIsThere();
        createdThatIsNotWaitedFor();
        relayFromNobody();
        unknownTearsDown();
        firstPairMustBeZero();
        distanceWithoutNodeBehind();
        tearDownReachesBothSides();
        tearDownReachesTheOneWaitedFor();
        destroyFromBehind();
        destroyFromTheOneWaitedFor();
        destroyGoesOnAsItIs();
        destroyFromNobody();
        extendOrders();
        beginOrders();
        dataOrders();
        windowGoesBack();
        endOrders();
        truncateOrders();
        otherOrders();
        leavesNothingBehind();
        relayRefuses();
        Check.finish();
    }

    /** BEGIN of stream 1 to hop 0 is the only cell on its way, and becomes another order. */
    private static void forge(OnionCells x, int order, int stream, int length, int... data) {
        int digest = x.key(0, 0, 2);
        x.begin(0, 1, 0);
        Inside.swap(x, 0, Inside.sealed(digest, Inside.BEGIN, 1, 0),
                Inside.sealed(digest, order, stream, length, data));
    }

    private static void headIs(OnionCells x, int i, int from, int to, int command) {
        Check.is("sender of " + i, x.cell(i, 0), from);
        Check.is("receiver of " + i, x.cell(i, 1), to);
        Check.is("command of " + i, x.cell(i, 3), command);
    }

    /** What relay 1 sends back to its node before as cell i, made with these keys 3 and 1. */
    private static void backIs(OnionCells x, int i, int digest, int wrapping, int order, int stream, int length,
            int... data) {
        int[] due = Inside.wrapped(wrapping, Inside.sealed(digest, order, stream, length, data));
        for (int k = 0; k < 14; k++) {
            Check.is("byte " + k + " of the order " + order, x.cell(i, 4 + k), due[k]);
        }
        Check.is("distance of the order " + order, x.cell(i, 18), 0);
    }

    private static void createThatDoesNotFit() {
        for (int publicX : new int[] {0, 65521, 65535}) {
            OnionCells x = new OnionCells();
            x.create(1, 2, 5);
            x.damage(0, 0, x.cell(0, 4) ^ publicX >> 8);
            x.damage(0, 1, x.cell(0, 5) ^ publicX & 255);
            x.deliver(1);
            headIs(x, 0, 2, 0, 4);
            Check.is("its circuit", x.cell(0, 2), 1);
            Check.is("not there", x.relay(2, 1, 0), 0);
            Check.is("not stray", x.count(3), 0);
        }
        OnionCells x = new OnionCells();
        x.create(1, 2, 5);
        x.damage(0, 0, x.cell(0, 4) ^ 255);
        x.damage(0, 1, x.cell(0, 5) ^ 240);
        x.deliver(1);
        headIs(x, 0, 2, 0, 2);
        Check.is("65520 fits", x.relay(2, 1, 0), 1);
    }

    private static void createOfOneThatIsThere() {
        OnionCells x = Made.through(1);
        int key = x.relay(1, 0, 7);
        x.close(0);
        x.lose(0);
        x.create(0, 1, 6);
        x.deliver(1);
        Check.is("stray", x.count(3), 1);
        Check.is("no answer", x.count(0), 0);
        Check.is("as it was", x.relay(1, 0, 7), key);
        Check.is("BUILDING still", x.circuit(0, 0), OnionCells.BUILDING);
    }

    private static void createdThatIsNotWaitedFor() {
        OnionCells x = Made.through(1);
        x.extend(0, 2, 5);
        x.deliver(1);
        x.truncate(0, 0);
        x.deliver(2);
        headIs(x, 0, 2, 1, 2);
        x.deliver(1);
        Check.is("stray", x.count(3), 1);
        Check.is("none behind", x.relay(1, 0, 2), -1);
        Check.is("DESTROY and TRUNCATED alone", x.count(0), 2);
    }

    private static void relayFromNobody() {
        OnionCells x = Made.through(1, 2);
        x.begin(0, 1, 1);
        x.truncate(0, 0);
        x.deliver(5);
        headIs(x, 0, 2, 1, 3);
        int key = x.relay(1, 0, 8);
        x.deliver(1);
        Check.is("RELAY from a node that is not behind any more is stray", x.count(3), 1);
        Check.is("no key moves", x.relay(1, 0, 8), key);
        Check.is("nothing goes on", x.count(0), 0);
        OnionCells y = Made.through(1);
        y.begin(0, 1, 0);
        y.begin(0, 2, 0);
        y.damage(0, 13, 1);
        y.deliver(1);
        Check.is("torn down", y.relay(1, 0, 0), 0);
        y.deliver(1);
        Check.is("RELAY without the circuit is stray", y.count(3), 1);
        Check.is("DESTROY alone", y.count(0), 1);
    }

    private static void unknownTearsDown() {
        for (int k = 0; k < 14; k++) {
            OnionCells x = Made.through(1);
            x.begin(0, 1, 0);
            x.damage(0, k, 1 << k % 8);
            x.deliver(1);
            Check.is("torn down by byte " + k, x.relay(1, 0, 0), 0);
            headIs(x, 0, 1, 0, 4);
            Check.is("DESTROY alone", x.count(0), 1);
            x.deliver(1);
            Check.is("CLOSED", x.circuit(0, 0), OnionCells.CLOSED);
            Check.is("no stream", x.circuit(0, 6), 0);
            Check.is("hops are kept", x.circuit(0, 1), 1);
            Check.is("no answer to DESTROY", x.count(0), 0);
        }
    }

    /** The check fits, but the first pair is not 0. */
    private static void firstPairMustBeZero() {
        for (int at = 0; at < 2; at++) {
            OnionCells x = Made.through(1);
            int digest = x.key(0, 0, 2);
            x.begin(0, 1, 0);
            int[] was = Inside.sealed(digest, Inside.BEGIN, 1, 0);
            int[] becomes = was.clone();
            becomes[at] = 9;
            int check = Inside.digestAfter(digest, becomes) >>> 16;
            becomes[2] = check >> 8;
            becomes[3] = check & 255;
            Inside.swap(x, 0, was, becomes);
            x.deliver(1);
            Check.is("torn down", x.relay(1, 0, 0), 0);
        }
    }

    private static void distanceWithoutNodeBehind() {
        OnionCells x = Made.through(1, 2);
        x.truncate(0, 0);
        x.begin(0, 2, 1);
        x.deliver(2);
        Check.is("torn down", x.relay(1, 0, 0), 0);
        Check.is("DESTROY to 2, TRUNCATED, DESTROY to the client", x.count(0), 3);
        headIs(x, 0, 1, 2, 4);
        headIs(x, 2, 1, 0, 4);
        x.deliver(3);
        Check.is("CLOSED", x.circuit(0, 0), OnionCells.CLOSED);
    }

    private static void tearDownReachesBothSides() {
        OnionCells x = Made.through(1, 2, 3);
        x.begin(0, 1, 1);
        x.deliver(1);
        x.damage(0, 6, 4);
        x.deliver(1);
        Check.is("two DESTROYs", x.count(0), 2);
        headIs(x, 0, 2, 1, 4);
        headIs(x, 1, 2, 3, 4);
        x.deliver(1);
        headIs(x, 1, 1, 0, 4);
        x.deliver(2);
        for (int relay = 1; relay <= 3; relay++) {
            Check.is("gone at " + relay, x.relay(relay, 0, 0), 0);
        }
        Check.is("CLOSED", x.circuit(0, 0), OnionCells.CLOSED);
        Check.is("nothing stray", x.count(3), 0);
    }

    private static void tearDownReachesTheOneWaitedFor() {
        OnionCells x = Made.through(1);
        x.extend(0, 2, 5);
        x.deliver(1);
        x.truncate(0, 0);
        x.damage(1, 4, 8);
        x.deliver(2);
        Check.is("CREATED and two DESTROYs", x.count(0), 3);
        headIs(x, 1, 1, 0, 4);
        headIs(x, 2, 1, 2, 4);
        x.deliver(1);
        Check.is("CREATED is stray", x.count(3), 1);
        x.deliver(2);
        Check.is("gone at relay 2", x.relay(2, 0, 0), 0);
        Check.is("nothing else is stray", x.count(3), 1);
    }

    private static void destroyFromBehind() {
        OnionCells x = Made.through(1, 2, 3);
        x.begin(0, 1, 2);
        x.deliver(2);
        x.damage(0, 0, 1);
        x.deliver(1);
        headIs(x, 0, 3, 2, 4);
        x.deliver(1);
        headIs(x, 0, 2, 1, 4);
        Check.is("gone at 2", x.relay(2, 0, 0), 0);
        Check.is("there at 1", x.relay(1, 0, 0), 1);
        x.deliver(2);
        Check.is("CLOSED", x.circuit(0, 0), OnionCells.CLOSED);
        Check.is("nothing more", x.count(0), 0);
    }

    private static void destroyFromTheOneWaitedFor() {
        OnionCells x = Made.through(1);
        x.extend(0, 2, 5);
        x.deliver(1);
        x.damage(0, 0, x.cell(0, 4));
        x.damage(0, 1, x.cell(0, 5));
        x.deliver(1);
        headIs(x, 0, 2, 1, 4);
        x.deliver(1);
        headIs(x, 0, 1, 0, 4);
        Check.is("gone at 1", x.relay(1, 0, 0), 0);
        x.deliver(1);
        Check.is("CLOSED", x.circuit(0, 0), OnionCells.CLOSED);
        Check.is("waits no more", x.circuit(0, 5), -1);
    }

    private static void destroyGoesOnAsItIs() {
        OnionCells x = Made.through(1, 2);
        x.close(0);
        x.damage(0, 3, 77);
        x.deliver(1);
        headIs(x, 0, 1, 2, 4);
        Check.is("the damaged byte", x.cell(0, 7), 77);
        Check.is("another", x.cell(0, 8), 0);
    }

    private static void destroyFromNobody() {
        OnionCells x = Made.through(1, 2);
        x.truncate(0, 0);
        x.deliver(1);
        x.lose(0);
        x.deliver(1);
        x.extend(0, 3, 5);
        x.deliver(4);
        x.extend(0, 4, 5);
        x.deliver(100);
        Check.is("three hops, the old relay 2 beside them", x.circuit(0, 1), 3);
        Check.is("relay 2 is there still", x.relay(2, 0, 0), 1);
        x.close(0);
        x.deliver(100);
        Check.is("no DESTROY reaches it", x.relay(2, 0, 0), 1);
        x.create(0, 2, 5);
        x.deliver(1);
        Check.is("CREATE is stray there", x.count(3), 1);
        x.close(0);
        x.deliver(1);
        Check.is("DESTROY from a node that is not before it is stray, too", x.count(3), 2);
        Check.is("relay 2 is there yet", x.relay(2, 0, 0), 1);
        Check.is("before is relay 1", x.relay(2, 0, 1), 1);
    }

    private static void extendOrders() {
        for (int to : new int[] {0, 1, 5, 255}) {
            OnionCells x = Made.through(1);
            forge(x, Inside.EXTEND, 0, 3, to, 0, 17);
            x.deliver(1);
            Check.is("torn down by EXTEND to " + to, x.relay(1, 0, 0), 0);
            headIs(x, 0, 1, 0, 4);
            Check.is("DESTROY alone", x.count(0), 1);
        }
        OnionCells good = Made.through(1);
        forge(good, Inside.EXTEND, 0, 3, 4, 1, 2);
        good.deliver(1);
        headIs(good, 0, 1, 4, 1);
        Check.is("X, higher", good.cell(0, 4), 1);
        Check.is("X, lower", good.cell(0, 5), 2);
        Check.is("waited for", good.relay(1, 0, 3), 4);
        Check.is("none behind", good.relay(1, 0, 2), -1);
        OnionCells toFirst = Made.through(2);
        toFirst.extend(0, 1, 5);
        toFirst.deliver(1);
        headIs(toFirst, 0, 2, 1, 1);
        OnionCells toBefore = Made.through(1, 2);
        int digest = toBefore.key(0, 1, 2);
        toBefore.begin(0, 1, 1);
        Inside.swap(toBefore, 0, Inside.sealed(digest, Inside.BEGIN, 1, 0),
                Inside.sealed(digest, Inside.EXTEND, 0, 3, 1, 0, 17));
        toBefore.deliver(2);
        Check.is("torn down by EXTEND to the node before", toBefore.relay(2, 0, 0), 0);
        OnionCells withBehind = Made.through(1, 2);
        forge(withBehind, Inside.EXTEND, 0, 3, 3, 0, 17);
        withBehind.deliver(1);
        Check.is("torn down with one behind", withBehind.relay(1, 0, 0), 0);
        headIs(withBehind, 0, 1, 0, 4);
        headIs(withBehind, 1, 1, 2, 4);
        OnionCells withWaited = Made.through(1);
        int first = withWaited.key(0, 0, 2);
        withWaited.extend(0, 2, 5);
        int second = withWaited.key(0, 0, 2);
        withWaited.truncate(0, 0);
        Check.holds("the digest key runs", first != second);
        Inside.swap(withWaited, 1, Inside.sealed(second, Inside.TRUNCATE, 0, 0),
                Inside.sealed(second, Inside.EXTEND, 0, 3, 3, 0, 17));
        withWaited.deliver(2);
        Check.is("torn down with one waited for", withWaited.relay(1, 0, 0), 0);
        headIs(withWaited, 1, 1, 0, 4);
        headIs(withWaited, 2, 1, 2, 4);
    }

    private static void beginOrders() {
        for (int stream : new int[] {0, 4, 255}) {
            OnionCells x = Made.through(1);
            int digest = x.relay(1, 0, 10);
            int wrapping = x.relay(1, 0, 8);
            forge(x, Inside.BEGIN, stream, 0);
            x.deliver(1);
            backIs(x, 0, digest, wrapping, Inside.END, stream, 0);
            Check.is("there still", x.relay(1, 0, 0), 1);
            x.deliver(1);
            Check.is("READY still", x.circuit(0, 0), OnionCells.READY);
        }
        OnionCells x = Made.streaming(2, 0, 1);
        int digest = x.relay(1, 0, 10);
        int wrapping = x.relay(1, 0, 8);
        forge(x, Inside.BEGIN, 2, 0);
        x.deliver(1);
        backIs(x, 0, digest, wrapping, Inside.END, 2, 0);
        Check.is("open still at the relay", x.relay(1, 0, 5), 1);
        x.deliver(1);
        Check.is("not there at the client", x.circuit(0, 7), 0);
    }

    private static void dataOrders() {
        for (int stream : new int[] {0, 3, 4}) {
            OnionCells x = Made.through(1);
            int digest = x.relay(1, 0, 10);
            int wrapping = x.relay(1, 0, 8);
            forge(x, Inside.DATA, stream, 1, 5);
            x.deliver(1);
            Check.is("one answer", x.count(0), 1);
            backIs(x, 0, digest, wrapping, Inside.END, stream, 0);
        }
        for (int length : new int[] {2, 7, 8, 255}) {
            OnionCells x = Made.streaming(2, 0, 1);
            int digest = x.relay(1, 0, 10);
            int wrapping = x.relay(1, 0, 8);
            forge(x, Inside.DATA, 2, length, 1, 2, 3, 4, 5, 6, 7);
            x.deliver(1);
            if (length == 2) {
                backIs(x, 0, digest, wrapping, Inside.DATA, 2, 2, 254, 253);
            } else {
                backIs(x, 0, digest, wrapping, Inside.DATA, 2, length, 254, 253, 252, 251, 250, 249, 248);
            }
            x.deliver(1);
            Check.is("the first byte", x.data(0, 0), 254);
            Check.is("the seventh byte", x.data(0, 6), length == 2 ? -1 : 248);
            Check.is("no eighth byte", x.data(0, 7), -1);
        }
    }

    private static void windowGoesBack() {
        OnionCells x = Made.streaming(2, 0, 1);
        x.send(0, 2, 0, 0);
        x.send(0, 2, 0, 0);
        x.deliver(1);
        int digest = x.relay(1, 0, 10);
        int wrapping = x.relay(1, 0, 8);
        x.deliver(1);
        backIs(x, 1, digest, wrapping, Inside.DATA, 2, 0);
        int[] echo = Inside.sealed(digest, Inside.DATA, 2, 0);
        backIs(x, 2, Inside.digestAfter(digest, echo), Inside.keyAfterWrap(wrapping), Inside.WINDOW, 2, 0);
    }

    private static void endOrders() {
        OnionCells x = Made.streaming(2, 0, 1);
        forge(x, Inside.END, 2, 0);
        x.deliver(1);
        Check.is("closed", x.relay(1, 0, 5), 0);
        Check.is("no answer", x.count(0), 0);
        for (int stream : new int[] {0, 1, 4, 255}) {
            OnionCells y = Made.streaming(2, 0, 1);
            forge(y, Inside.END, stream, 0);
            y.deliver(1);
            Check.is("no answer to END of " + stream, y.count(0), 0);
            Check.is("there still", y.relay(1, 0, 0), 1);
            Check.is("open still", y.relay(1, 0, 5), 1);
        }
    }

    private static void truncateOrders() {
        OnionCells x = Made.through(1);
        int digest = x.relay(1, 0, 10);
        int wrapping = x.relay(1, 0, 8);
        x.truncate(0, 0);
        x.deliver(1);
        Check.is("TRUNCATED alone", x.count(0), 1);
        backIs(x, 0, digest, wrapping, Inside.TRUNCATED, 0, 0);
    }

    private static void otherOrders() {
        for (int order : new int[] {0, 2, 4, 7, 9, 10, 255}) {
            OnionCells x = Made.streaming(2, 0, 1);
            forge(x, order, 2, 0);
            x.deliver(1);
            Check.is("torn down by the order " + order, x.relay(1, 0, 0), 0);
            headIs(x, 0, 1, 0, 4);
        }
    }

    private static void leavesNothingBehind() {
        OnionCells waiting = Made.streaming(1, 0, 1);
        waiting.extend(0, 2, 5);
        waiting.close(0);
        waiting.deliver(2);
        Check.is("none is waited for", waiting.relay(1, 0, 3), -1);
        Check.is("stream 1 is not open", waiting.relay(1, 0, 4), 0);
        OnionCells x = Made.streaming(2, 0, 1, 2);
        x.send(0, 2, 1, 1);
        x.deliver(100);
        x.close(0);
        x.deliver(1);
        for (int what = 0; what < 11; what++) {
            Check.is("relay(1, 0, " + what + ")", x.relay(1, 0, what), what >= 1 && what <= 3 ? -1 : 0);
        }
        x.deliver(100);
        Made.lay(x, 0, 1);
        Check.is("none behind", x.relay(1, 0, 2), -1);
        Check.is("no stream open", x.relay(1, 0, 5), 0);
        x.begin(0, 2, 0);
        x.deliver(2);
        x.send(0, 2, 1, 1);
        x.deliver(1);
        Check.is("the count is new", x.count(0), 1);
    }

    private static void relayRefuses() {
        OnionCells x = new OnionCells();
        Check.index("relay(0, 0, 0)", () -> x.relay(0, 0, 0));
        Check.index("relay(5, 0, 0)", () -> x.relay(5, 0, 0));
        Check.index("relay(1, 4, 0)", () -> x.relay(1, 4, 0));
        Check.index("relay(1, -1, 0)", () -> x.relay(1, -1, 0));
        Check.index("relay(1, 0, 11)", () -> x.relay(1, 0, 11));
        Check.index("relay(1, 0, -1)", () -> x.relay(1, 0, -1));
    }
}
