/** What cells and orders do at a relay, and how relay tells it: promises 10 and 16. */
public final class AtRelayTest {
    private AtRelayTest() {
    }

    public static void main(String[] args) {
        createThatDoesNotFit();
        createThatFits();
        unknownTearsDown();
        firstPairMustBeZero();
        distanceAboveZeroIsNotFollowed();
        damagedGoesPastOthers();
        distanceWithoutNodeBehind();
        distanceWithOneWaitedForAlone();
        tearDownWithNoneBehind();
        tearDownReachesBothSides();
        tearDownReachesTheOneWaitedFor();
        destroyFromBefore();
        destroyFromBehind();
        destroyFromTheOneWaitedFor();
        destroyGoesOnAsItIs();
        extendToNoRelay();
        extendToNoRelayFromTheSecond();
        extendToItself();
        extendToTheNodeBefore();
        extendWithOneBehind();
        extendWithOneWaitedFor();
        extendThatFits();
        beginOfNoStream();
        beginOfOneThatIsOpen();
        beginAfterEnd();
        dataOfOneNotOpen();
        dataOfAnyLength();
        windowBehindEverySecond();
        endOrders();
        truncateWithNone();
        truncateWithOneBehind();
        truncateWithOneWaitedFor();
        otherOrders();
        leavesNothingBehind();
        relayTellsEachHop();
        Check.finish();
    }

    /** BEGIN of stream 1 to hop 0 is the only cell on its way, and becomes another order. */
    private static void forge(OnionCells x, int order, int stream, int length, int... data) {
        forgeTo(0, x, order, stream, length, data);
    }

    private static void forgeToSecond(OnionCells x, int order, int stream, int length, int... data) {
        forgeTo(1, x, order, stream, length, data);
    }

    private static void forgeTo(int hop, OnionCells x, int order, int stream, int length, int... data) {
        int digest = x.key(0, hop, 2);
        x.begin(0, 1, hop);
        Inside.swap(x, 0, Inside.sealed(digest, Inside.BEGIN, 1, 0),
                Inside.sealed(digest, order, stream, length, data));
    }

    private static void headIs(OnionCells x, int i, int from, int to, int command) {
        Check.is("sender of " + i, x.cell(i, 0), from);
        Check.is("receiver of " + i, x.cell(i, 1), to);
        Check.is("command of " + i, x.cell(i, 3), command);
    }

    /** What relay 1 sends back to its node before as cell i, made with these keys 3 and 1. */
    private static void backIs(OnionCells x, int i, int digest, int wrapping, int order, int stream, int length,
            int... data) {
        int[] due = Inside.wrapped(wrapping, Inside.sealed(digest, order, stream, length, data));
        for (int k = 0; k < 14; k++) {
            Check.is("byte " + k + " of the order " + order, x.cell(i, 4 + k), due[k]);
        }
        Check.is("distance of the order " + order, x.cell(i, 18), 0);
    }

    private static OnionCells createWith(int publicX) {
        OnionCells x = new OnionCells();
        x.create(1, 2, 5);
        x.damage(0, 0, x.cell(0, 4) ^ publicX >> 8);
        x.damage(0, 1, x.cell(0, 5) ^ publicX & 255);
        x.deliver(1);
        return x;
    }

    /** "(X 0, or above 65520: DESTROY back to the sender)". */
    private static void createThatDoesNotFit() {
        for (int publicX : new int[] {0, 65521, 65522, 65535}) {
            OnionCells x = createWith(publicX);
            Check.is("DESTROY alone", x.count(0), 1);
            headIs(x, 0, 2, 0, 4);
            Check.is("its circuit", x.cell(0, 2), 1);
            Check.is("not there", x.relay(2, 1, 0), 0);
            Check.is("not stray", x.count(3), 0);
        }
    }

    /** "(X 0, or above 65520: ..)": the lowest and the highest that fit. */
    private static void createThatFits() {
        for (int publicX : new int[] {1, 2, 65519, 65520}) {
            OnionCells x = createWith(publicX);
            headIs(x, 0, 2, 0, 2);
            int h = Inside.agreed(2, 2000, publicX, 0);
            for (int k = 0; k < 4; k++) {
                Check.is("key " + k + " with the X " + publicX, x.relay(2, 1, 7 + k), Inside.key(h, k));
            }
        }
    }

    /** "RELAY .. from the node before: .. if its distance is 0 and it is known ..; otherwise .. torn down". */
    private static void unknownTearsDown() {
        for (int k = 0; k < 14; k++) {
            OnionCells x = Made.through(1);
            x.begin(0, 1, 0);
            x.damage(0, k, 1 << k % 8);
            x.deliver(1);
            Check.is("torn down by byte " + k, x.relay(1, 0, 0), 0);
            headIs(x, 0, 1, 0, 4);
            Check.is("DESTROY alone", x.count(0), 1);
            x.deliver(1);
            Check.is("CLOSED", x.circuit(0, 0), OnionCells.CLOSED);
            Check.is("no stream", x.circuit(0, 6), 0);
            Check.is("hops are kept", x.circuit(0, 1), 1);
            Check.is("no answer to DESTROY", x.count(0), 0);
        }
    }

    /** "It is KNOWN by a digest key if the first pair is 0": the check alone would fit. */
    private static void firstPairMustBeZero() {
        for (int at = 0; at < 2; at++) {
            OnionCells x = Made.through(1);
            int digest = x.key(0, 0, 2);
            x.begin(0, 1, 0);
            int[] was = Inside.sealed(digest, Inside.BEGIN, 1, 0);
            Inside.swap(x, 0, was, Inside.resealed(digest, was, at, 9));
            x.deliver(1);
            Check.is("torn down", x.relay(1, 0, 0), 0);
        }
    }

    /** "if its distance is 0 and it is known": one that the first relay would know, with a distance above 0. */
    private static void distanceAboveZeroIsNotFollowed() {
        OnionCells x = Made.through(1, 2);
        int digest = x.key(0, 0, 2);
        int innerDigest = x.key(0, 1, 2);
        int inner = x.key(0, 1, 0);
        x.begin(0, 1, 1);
        Inside.swap(x, 0, Inside.wrapped(inner, Inside.sealed(innerDigest, Inside.BEGIN, 1, 0)),
                Inside.sealed(digest, Inside.BEGIN, 1, 0));
        x.deliver(1);
        headIs(x, 0, 1, 2, 3);
        Check.is("its distance", x.cell(0, 18), 0);
        Check.is("it does go on as an order that relay 1 would know", x.cell(0, 8), Inside.BEGIN);
        Check.is("no stream is open", x.relay(1, 0, 4), 0);
        Check.is("the digest key is as it was", x.relay(1, 0, 9), digest);
    }

    /** "if its distance is above 0 and there is a node behind, it goes on": damaged ones, too. */
    private static void damagedGoesPastOthers() {
        OnionCells x = Made.through(1, 2, 3);
        x.begin(0, 1, 2);
        x.damage(0, 0, 255);
        x.damage(0, 4, 255);
        x.deliver(2);
        headIs(x, 0, 2, 3, 3);
        Check.is("one cell", x.count(0), 1);
        Check.is("there at 1", x.relay(1, 0, 0), 1);
        Check.is("there at 2", x.relay(2, 0, 0), 1);
        x.deliver(1);
        Check.is("torn down at 3", x.relay(3, 0, 0), 0);
        headIs(x, 0, 3, 2, 4);
    }

    /** "if its distance is above 0 and there is a node behind ..; otherwise .. torn down": there is none. */
    private static void distanceWithoutNodeBehind() {
        OnionCells x = Made.through(1, 2);
        x.truncate(0, 0);
        x.begin(0, 2, 1);
        x.deliver(2);
        Check.is("torn down", x.relay(1, 0, 0), 0);
        Check.is("DESTROY to 2, TRUNCATED, DESTROY to the client", x.count(0), 3);
        headIs(x, 0, 1, 2, 4);
        headIs(x, 2, 1, 0, 4);
        x.deliver(3);
        Check.is("CLOSED", x.circuit(0, 0), OnionCells.CLOSED);
    }

    /** The same: one that is waited for is not behind yet. */
    private static void distanceWithOneWaitedForAlone() {
        OnionCells x = Made.through(1, 2);
        x.truncate(0, 0);
        int digest = x.key(0, 0, 2);
        x.begin(0, 1, 0);
        Inside.swap(x, 1, Inside.sealed(digest, Inside.BEGIN, 1, 0),
                Inside.sealed(digest, Inside.EXTEND, 0, 3, 3, 0, 17));
        x.begin(0, 2, 1);
        x.deliver(2);
        Check.is("waits for relay 3", x.relay(1, 0, 3), 3);
        x.deliver(1);
        Check.is("torn down", x.relay(1, 0, 0), 0);
        int last = x.count(0) - 1;
        headIs(x, last - 1, 1, 0, 4);
        headIs(x, last, 1, 3, 4);
    }

    /** "TEARING it down at a relay: DESTROY to the node before; then ..., if there is one". */
    private static void tearDownWithNoneBehind() {
        OnionCells x = Made.through(1, 2);
        x.begin(0, 1, 1);
        x.damage(0, 1, 1);
        x.deliver(2);
        Check.is("one DESTROY", x.count(0), 1);
        headIs(x, 0, 2, 1, 4);
        for (int k = 0; k < 14; k++) {
            Check.is("byte " + k + " of DESTROY", x.cell(0, 4 + k), 0);
        }
        Check.is("not there any more", x.relay(2, 0, 0), 0);
    }

    /** "TEARING it down at a relay: DESTROY to the node before; then to the one behind". */
    private static void tearDownReachesBothSides() {
        OnionCells x = Made.through(1, 2, 3);
        x.begin(0, 1, 1);
        x.deliver(1);
        x.damage(0, 6, 4);
        x.deliver(1);
        Check.is("two DESTROYs", x.count(0), 2);
        headIs(x, 0, 2, 1, 4);
        headIs(x, 1, 2, 3, 4);
        x.deliver(1);
        headIs(x, 1, 1, 0, 4);
        x.deliver(2);
        for (int relay = 1; relay <= 3; relay++) {
            Check.is("gone at " + relay, x.relay(relay, 0, 0), 0);
        }
        Check.is("CLOSED", x.circuit(0, 0), OnionCells.CLOSED);
        Check.is("nothing stray", x.count(3), 0);
    }

    /** "TEARING it down at a relay: .. or else the one that is waited for". */
    private static void tearDownReachesTheOneWaitedFor() {
        OnionCells x = Made.through(1);
        x.extend(0, 2, 5);
        x.deliver(1);
        x.truncate(0, 0);
        x.damage(1, 4, 8);
        x.deliver(2);
        Check.is("CREATED and two DESTROYs", x.count(0), 3);
        headIs(x, 1, 1, 0, 4);
        headIs(x, 2, 1, 2, 4);
        x.deliver(1);
        Check.is("CREATED is stray", x.count(3), 1);
        x.deliver(2);
        Check.is("gone at relay 2", x.relay(2, 0, 0), 0);
        Check.is("nothing else is stray", x.count(3), 1);
    }

    /** "DESTROY .. from the node before: it goes on to the node behind, or else .. waited for, if there is one". */
    private static void destroyFromBefore() {
        OnionCells behind = Made.through(1, 2);
        behind.close(0);
        behind.deliver(1);
        Check.is("not there any more", behind.relay(1, 0, 0), 0);
        Check.is("one DESTROY", behind.count(0), 1);
        headIs(behind, 0, 1, 2, 4);
        behind.deliver(1);
        Check.is("gone at the last", behind.relay(2, 0, 0), 0);
        Check.is("none behind that", behind.count(0), 0);
        OnionCells waited = Made.through(1);
        waited.extend(0, 3, 5);
        waited.deliver(1);
        waited.lose(0);
        waited.close(0);
        waited.deliver(1);
        Check.is("gone, though one was waited for", waited.relay(1, 0, 0), 0);
        Check.is("one DESTROY", waited.count(0), 1);
        headIs(waited, 0, 1, 3, 4);
    }

    /** "DESTROY .. from the node behind ..: it goes on to the node before". */
    private static void destroyFromBehind() {
        OnionCells x = Made.through(1, 2, 3);
        x.begin(0, 1, 2);
        x.deliver(2);
        x.damage(0, 0, 1);
        x.deliver(1);
        headIs(x, 0, 3, 2, 4);
        x.deliver(1);
        headIs(x, 0, 2, 1, 4);
        Check.is("gone at 2", x.relay(2, 0, 0), 0);
        Check.is("there at 1", x.relay(1, 0, 0), 1);
        x.deliver(2);
        Check.is("CLOSED", x.circuit(0, 0), OnionCells.CLOSED);
        Check.is("nothing more", x.count(0), 0);
    }

    /** "DESTROY .. from .. the one waited for: it goes on to the node before". */
    private static void destroyFromTheOneWaitedFor() {
        OnionCells x = Made.through(1);
        x.extend(0, 2, 5);
        x.deliver(1);
        x.damage(0, 0, x.cell(0, 4));
        x.damage(0, 1, x.cell(0, 5));
        x.deliver(1);
        headIs(x, 0, 2, 1, 4);
        x.deliver(1);
        headIs(x, 0, 1, 0, 4);
        Check.is("gone at 1", x.relay(1, 0, 0), 0);
        x.deliver(1);
        Check.is("CLOSED", x.circuit(0, 0), OnionCells.CLOSED);
        Check.is("waits no more", x.circuit(0, 5), -1);
    }

    /** "DESTROY .. it goes on": read as the cell itself, with the bytes that it has. */
    private static void destroyGoesOnAsItIs() {
        OnionCells x = Made.through(1, 2);
        x.close(0);
        x.damage(0, 3, 77);
        x.deliver(1);
        headIs(x, 0, 1, 2, 4);
        Check.is("the damaged byte", x.cell(0, 7), 77);
        Check.is("another", x.cell(0, 8), 0);
    }

    private static void extendIsRefused(OnionCells x, String why, int... receivers) {
        x.deliver(1);
        Check.is("torn down by EXTEND " + why, x.relay(1, 0, 0), 0);
        int first = x.count(0) - receivers.length;
        for (int i = 0; i < receivers.length; i++) {
            headIs(x, first + i, 1, receivers[i], 4);
        }
    }

    /** "1 EXTEND ..: if that is a relay 1 .. 4 ..; else the circuit is torn down." */
    private static void extendToNoRelay() {
        for (int to : new int[] {0, 5, 255}) {
            OnionCells x = Made.through(1);
            forge(x, Inside.EXTEND, 0, 3, to, 0, 17);
            extendIsRefused(x, "to " + to, 0);
            Check.is("DESTROY alone", x.count(0), 1);
        }
    }

    /** The same at the second hop, before which stands a relay: the client is no relay there either. */
    private static void extendToNoRelayFromTheSecond() {
        for (int to : new int[] {0, 5}) {
            OnionCells x = Made.through(1, 2);
            forgeToSecond(x, Inside.EXTEND, 0, 3, to, 0, 17);
            x.deliver(2);
            Check.is("torn down by EXTEND to " + to, x.relay(2, 0, 0), 0);
            Check.is("DESTROY alone", x.count(0), 1);
            headIs(x, 0, 2, 1, 4);
        }
    }

    /** "1 EXTEND ..: if that is .. not itself ..; else the circuit is torn down." */
    private static void extendToItself() {
        OnionCells x = Made.through(1);
        forge(x, Inside.EXTEND, 0, 3, 1, 0, 17);
        extendIsRefused(x, "to itself", 0);
        Check.is("DESTROY alone", x.count(0), 1);
    }

    /** "1 EXTEND ..: if that is .. not the node before ..; else the circuit is torn down." */
    private static void extendToTheNodeBefore() {
        OnionCells x = Made.through(1, 2);
        forgeToSecond(x, Inside.EXTEND, 0, 3, 1, 0, 17);
        x.deliver(2);
        Check.is("torn down by EXTEND to the node before", x.relay(2, 0, 0), 0);
        Check.is("DESTROY alone", x.count(0), 1);
        headIs(x, 0, 2, 1, 4);
    }

    /** "1 EXTEND ..: if .. there is none behind ..; else the circuit is torn down." */
    private static void extendWithOneBehind() {
        for (int to : new int[] {2, 3}) {
            OnionCells x = Made.through(1, 2);
            forge(x, Inside.EXTEND, 0, 3, to, 0, 17);
            extendIsRefused(x, "with one behind", 0, 2);
            Check.is("two DESTROYs alone", x.count(0), 2);
        }
    }

    /** "1 EXTEND ..: if .. there is none .. waited for ..; else the circuit is torn down." */
    private static void extendWithOneWaitedFor() {
        for (int to : new int[] {2, 3}) {
            OnionCells x = Made.through(1);
            x.extend(0, 2, 5);
            int digest = x.key(0, 0, 2);
            x.truncate(0, 0);
            Inside.swap(x, 1, Inside.sealed(digest, Inside.TRUNCATE, 0, 0),
                    Inside.sealed(digest, Inside.EXTEND, 0, 3, to, 0, 17));
            x.deliver(1);
            extendIsRefused(x, "with one waited for", 0, 2);
            Check.is("CREATE and two DESTROYs", x.count(0), 3);
        }
    }

    /** "1 EXTEND, data: a node and a pair X: if that is a relay ..: CREATE with X to it, and it is waited for". */
    private static void extendThatFits() {
        for (int to = 2; to <= 4; to++) {
            OnionCells x = Made.through(1);
            forge(x, Inside.EXTEND, 0, 3, to, 1, 2);
            x.deliver(1);
            Check.is("CREATE alone", x.count(0), 1);
            headIs(x, 0, 1, to, 1);
            Check.is("X, higher", x.cell(0, 4), 1);
            Check.is("X, lower", x.cell(0, 5), 2);
            Check.is("waited for", x.relay(1, 0, 3), to);
            Check.is("none behind", x.relay(1, 0, 2), -1);
        }
        OnionCells toFirst = Made.through(2);
        toFirst.extend(0, 1, 5);
        toFirst.deliver(1);
        headIs(toFirst, 0, 2, 1, 1);
    }

    /** "3 BEGIN of a stream: if it is 1 .. 3 ..; else END of it." */
    private static void beginOfNoStream() {
        for (int stream : new int[] {0, 4, 255}) {
            OnionCells x = Made.through(1);
            int digest = x.relay(1, 0, 10);
            int wrapping = x.relay(1, 0, 8);
            forge(x, Inside.BEGIN, stream, 0);
            x.deliver(1);
            Check.is("one answer", x.count(0), 1);
            backIs(x, 0, digest, wrapping, Inside.END, stream, 0);
            Check.is("there still", x.relay(1, 0, 0), 1);
            x.deliver(1);
            Check.is("READY still", x.circuit(0, 0), OnionCells.READY);
        }
        for (int stream = 1; stream <= 3; stream++) {
            OnionCells x = Made.through(1);
            int digest = x.relay(1, 0, 10);
            int wrapping = x.relay(1, 0, 8);
            forge(x, Inside.BEGIN, stream, 0);
            x.deliver(1);
            backIs(x, 0, digest, wrapping, Inside.CONNECTED, stream, 0);
            for (int s = 1; s <= 3; s++) {
                Check.is("stream " + s, x.relay(1, 0, 3 + s), s == stream ? 1 : 0);
            }
        }
    }

    /** "3 BEGIN of a stream: if it is .. not open ..; else END of it": it stays open, with its count. */
    private static void beginOfOneThatIsOpen() {
        OnionCells x = Made.streaming(2, 0, 1);
        x.send(0, 2, 1, 1);
        x.deliver(2);
        int digest = x.relay(1, 0, 10);
        int wrapping = x.relay(1, 0, 8);
        forge(x, Inside.BEGIN, 2, 0);
        int digestOfClient = x.key(0, 0, 2);
        x.send(0, 2, 1, 1);
        x.deliver(1);
        backIs(x, 1, digest, wrapping, Inside.END, 2, 0);
        Check.is("open still at the relay", x.relay(1, 0, 5), 1);
        Inside.swap(x, 0, Inside.sealed(digestOfClient, Inside.DATA, 2, 1, 1),
                Inside.sealed(x.relay(1, 0, 9), Inside.DATA, 2, 1, 1));
        x.deliver(1);
        Check.is("END, DATA, and WINDOW for the second", x.count(0), 3);
        x.deliver(1);
        Check.is("not there at the client", x.circuit(0, 7), 0);
    }

    /** "3 BEGIN of a stream: .. it is open, its count 0": after an odd count the next one is odd again. */
    private static void beginAfterEnd() {
        OnionCells x = Made.streaming(2, 0, 1);
        x.send(0, 2, 1, 1);
        x.end(0, 2);
        x.deliver(100);
        x.begin(0, 2, 0);
        x.deliver(100);
        x.send(0, 2, 1, 1);
        x.deliver(1);
        Check.is("DATA alone", x.count(0), 1);
    }

    /** "5 DATA of a stream: .. if not open: END of it." */
    private static void dataOfOneNotOpen() {
        for (int stream : new int[] {0, 1, 3, 4, 255}) {
            OnionCells x = Made.streaming(2, 0, 1);
            int digest = x.relay(1, 0, 10);
            int wrapping = x.relay(1, 0, 8);
            forge(x, Inside.DATA, stream, 1, 5);
            x.deliver(1);
            Check.is("one answer", x.count(0), 1);
            backIs(x, 0, digest, wrapping, Inside.END, stream, 0);
            Check.is("there still", x.relay(1, 0, 0), 1);
        }
    }

    /** "5 DATA ..: with the same length and each of the bytes (of the length, at most 7) xor 255". */
    private static void dataOfAnyLength() {
        for (int length : new int[] {0, 1, 2, 6, 7, 8, 255}) {
            OnionCells x = Made.streaming(2, 0, 1);
            int digest = x.relay(1, 0, 10);
            int wrapping = x.relay(1, 0, 8);
            forge(x, Inside.DATA, 2, length, 1, 2, 3, 4, 5, 6, 7);
            x.deliver(1);
            Check.is("one answer", x.count(0), 1);
            int[] back = new int[Math.min(length, 7)];
            for (int i = 0; i < back.length; i++) {
                back[i] = 254 - i;
            }
            backIs(x, 0, digest, wrapping, Inside.DATA, 2, length, back);
        }
    }

    /** "its count becomes one more, and if that is even, WINDOW of it goes back, too, behind that". */
    private static void windowBehindEverySecond() {
        OnionCells x = Made.streaming(2, 0, 1);
        for (int sent = 1; sent <= 6; sent++) {
            x.send(0, 2, 0, 0);
            int digest = x.relay(1, 0, 10);
            int wrapping = x.relay(1, 0, 8);
            x.deliver(1);
            Check.is("answers to DATA " + sent, x.count(0), sent % 2 == 0 ? 2 : 1);
            backIs(x, 0, digest, wrapping, Inside.DATA, 2, 0);
            if (sent % 2 == 0) {
                int[] echo = Inside.sealed(digest, Inside.DATA, 2, 0);
                backIs(x, 1, Inside.digestAfter(digest, echo), Inside.keyAfterWrap(wrapping), Inside.WINDOW, 2, 0);
            }
            x.deliver(2);
        }
    }

    /** "6 END: if open, it is not any more." */
    private static void endOrders() {
        OnionCells x = Made.streaming(2, 0, 1);
        forge(x, Inside.END, 2, 0);
        x.deliver(1);
        Check.is("closed", x.relay(1, 0, 5), 0);
        Check.is("no answer", x.count(0), 0);
        for (int stream : new int[] {0, 1, 4, 255}) {
            OnionCells y = Made.streaming(2, 0, 1);
            forge(y, Inside.END, stream, 0);
            y.deliver(1);
            Check.is("no answer to END of " + stream, y.count(0), 0);
            Check.is("there still", y.relay(1, 0, 0), 1);
            Check.is("open still", y.relay(1, 0, 5), 1);
        }
    }

    /** "8 TRUNCATE: DESTROY to .., if there is one": there is none. */
    private static void truncateWithNone() {
        OnionCells x = Made.streaming(3, 0, 1);
        int digest = x.relay(1, 0, 10);
        int wrapping = x.relay(1, 0, 8);
        x.truncate(0, 0);
        x.deliver(1);
        Check.is("TRUNCATED alone", x.count(0), 1);
        backIs(x, 0, digest, wrapping, Inside.TRUNCATED, 0, 0);
        Check.is("its stream stays open", x.relay(1, 0, 6), 1);
    }

    /** "8 TRUNCATE: DESTROY to the node behind ..; none is then; TRUNCATED goes back." */
    private static void truncateWithOneBehind() {
        OnionCells x = Made.streaming(3, 0, 1, 2);
        int digest = x.relay(1, 0, 10);
        int wrapping = x.relay(1, 0, 8);
        x.truncate(0, 0);
        x.deliver(1);
        Check.is("DESTROY and TRUNCATED", x.count(0), 2);
        headIs(x, 0, 1, 2, 4);
        backIs(x, 1, digest, wrapping, Inside.TRUNCATED, 0, 0);
        Check.is("none behind", x.relay(1, 0, 2), -1);
        Check.is("its stream stays open", x.relay(1, 0, 6), 1);
    }

    /** "8 TRUNCATE: DESTROY to .. or else the one waited for ..; none is then; TRUNCATED goes back." */
    private static void truncateWithOneWaitedFor() {
        OnionCells x = Made.through(1);
        x.extend(0, 4, 5);
        x.truncate(0, 0);
        int digest = x.relay(1, 0, 10);
        int wrapping = x.relay(1, 0, 8);
        x.deliver(2);
        Check.is("CREATE, DESTROY and TRUNCATED", x.count(0), 3);
        headIs(x, 1, 1, 4, 4);
        backIs(x, 2, digest, wrapping, Inside.TRUNCATED, 0, 0);
        Check.is("none is waited for", x.relay(1, 0, 3), -1);
        Check.is("none behind", x.relay(1, 0, 2), -1);
    }

    /** "Others: the circuit is torn down." */
    private static void otherOrders() {
        for (int order : new int[] {0, 2, 4, 7, 9, 10, 255}) {
            OnionCells x = Made.streaming(2, 0, 1);
            forge(x, order, 2, 0);
            x.deliver(1);
            Check.is("torn down by the order " + order, x.relay(1, 0, 0), 0);
            headIs(x, 0, 1, 0, 4);
        }
    }

    /** Promise 16: "(each NOBODY for none, or if it is not there)", "(0 if it is not there)". */
    private static void leavesNothingBehind() {
        OnionCells waiting = Made.streaming(1, 0, 1);
        waiting.extend(0, 2, 5);
        waiting.close(0);
        waiting.deliver(2);
        Check.is("none is waited for", waiting.relay(1, 0, 3), -1);
        Check.is("stream 1 is not open", waiting.relay(1, 0, 4), 0);
        OnionCells x = Made.streaming(2, 0, 1, 2);
        x.send(0, 2, 1, 1);
        x.deliver(100);
        x.close(0);
        x.deliver(1);
        for (int what = 0; what < 11; what++) {
            Check.is("relay(1, 0, " + what + ")", x.relay(1, 0, what), what >= 1 && what <= 3 ? -1 : 0);
        }
        x.deliver(100);
        Made.lay(x, 0, 1);
        Check.is("none behind", x.relay(1, 0, 2), -1);
        Check.is("no stream open", x.relay(1, 0, 5), 0);
        x.begin(0, 2, 0);
        x.deliver(2);
        x.send(0, 2, 1, 1);
        x.deliver(1);
        Check.is("the count is new", x.count(0), 1);
    }

    /** Promise 16: "1 the node before, 2 the one behind, 3 the one waited for (each NOBODY for none ..)". */
    private static void relayTellsEachHop() {
        OnionCells x = Made.through(4, 1, 3);
        relayIs(x, 4, 1, 0, 1, -1);
        relayIs(x, 1, 1, 4, 3, -1);
        relayIs(x, 3, 1, 1, -1, -1);
        relayIs(x, 2, 0, -1, -1, -1);
        OnionCells extending = Made.through(4, 1);
        extending.extend(0, 2, 5);
        extending.deliver(2);
        relayIs(extending, 4, 1, 0, 1, -1);
        relayIs(extending, 1, 1, 4, -1, 2);
        extending.deliver(1);
        relayIs(extending, 2, 1, 1, -1, -1);
        extending.deliver(1);
        relayIs(extending, 1, 1, 4, 2, -1);
        for (int circuit = 1; circuit < 4; circuit++) {
            Check.is("another circuit is not there", x.relay(4, circuit, 0), 0);
        }
    }

    private static void relayIs(OnionCells x, int relay, int... due) {
        for (int what = 0; what < due.length; what++) {
            Check.is("relay(" + relay + ", 0, " + what + ")", x.relay(relay, 0, what), due[what]);
        }
    }
}
