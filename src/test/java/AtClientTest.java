/** What cells and orders do at the client: promises 10, 14 and 15. */
public final class AtClientTest {
    private AtClientTest() {
    }

    public static void main(String[] args) {
        createdWithAnotherTag();
        oldCreatedWillDo();
        extendedWithAnotherTag();
        unknownCloses();
        firstPairMustBeZero();
        withoutSuchAHopCloses();
        destroyCloses();
        destroyFromTheOneWaitedFor();
        extendedWhenReady();
        extendedFromAnotherHop();
        extendedThatFits();
        connectedOrders();
        dataOrders();
        endOrders();
        windowOrders();
        ordersOfNoStream();
        ordersOfAStreamNotThere();
        ordersOfAStreamOfAnotherHop();
        truncatedFromTheFirstHop();
        truncatedFromTheLastHop();
        truncatedWhileBuilding();
        otherOrders();
        Check.finish();
    }

    /** The one cell on its way, CONNECTED of stream 1 from hop 0, becomes another order. */
    private static void forge(OnionCells x, int order, int stream, int length, int... data) {
        x.begin(0, 1, 0);
        int digest = x.relay(1, 0, 10);
        x.deliver(1);
        Inside.swap(x, 0, Inside.sealed(digest, Inside.CONNECTED, 1, 0),
                Inside.sealed(digest, order, stream, length, data));
    }

    private static void closedWithDestroy(OnionCells x, String why) {
        Check.is("CLOSED by " + why, x.circuit(0, 0), OnionCells.CLOSED);
        int last = x.count(0) - 1;
        Check.is("DESTROY by " + why, x.cell(last, 3), 4);
        Check.is("from the client", x.cell(last, 0), 0);
        Check.is("to the first hop", x.cell(last, 1), 1);
        Check.is("waits for none", x.circuit(0, 5), -1);
        Check.is("no streams", x.circuit(0, 6) + x.circuit(0, 7) + x.circuit(0, 8), 0);
        Check.is("no stray", x.count(3), 0);
    }

    /** "if the TAG is the second pair, that is its first hop, and it is READY; else it is closed". */
    private static void createdWithAnotherTag() {
        for (int k = 0; k < 4; k++) {
            OnionCells x = new OnionCells();
            x.create(0, 1, 5);
            x.deliver(1);
            x.damage(0, k, 1);
            x.deliver(1);
            closedWithDestroy(x, "byte " + k + " of CREATED");
            Check.is("no hop", x.circuit(0, 1), 0);
        }
        OnionCells x = new OnionCells();
        x.create(0, 1, 5);
        x.deliver(1);
        x.damage(0, 4, 1);
        x.deliver(1);
        Check.is("other bytes do not count", x.circuit(0, 0), OnionCells.READY);
    }

    /** "if the TAG is the second pair": an old CREATED fits, if the exponent is the same. */
    private static void oldCreatedWillDo() {
        OnionCells x = new OnionCells();
        x.create(0, 1, 5);
        x.deliver(1);
        x.close(0);
        x.create(0, 1, 5);
        x.deliver(1);
        Check.is("READY by the old CREATED", x.circuit(0, 0), OnionCells.READY);
        OnionCells other = new OnionCells();
        other.create(0, 1, 5);
        other.deliver(1);
        other.close(0);
        other.create(0, 1, 6);
        other.deliver(1);
        closedWithDestroy(other, "an old CREATED with another exponent");
    }

    /** "2 EXTENDED: .. as with CREATED": another tag closes. */
    private static void extendedWithAnotherTag() {
        for (int k = 0; k < 4; k++) {
            OnionCells x = Made.through(1);
            x.extend(0, 2, 5);
            x.deliver(2);
            x.damage(0, k, 128);
            x.deliver(2);
            closedWithDestroy(x, "byte " + k + " of CREATED at a relay");
            Check.is("one hop", x.circuit(0, 1), 1);
        }
    }

    /** "if it is known then by key 3 of hop d ..; otherwise .. the circuit is closed"; "only then the key stays so". */
    private static void unknownCloses() {
        for (int k = 0; k < 14; k++) {
            OnionCells x = Made.through(1, 2);
            x.begin(0, 3, 1);
            x.deliver(2);
            int outer = x.key(0, 0, 1);
            int inner = x.key(0, 1, 1);
            int digest = x.key(0, 1, 3);
            x.damage(0, k, 1 << k % 8);
            x.deliver(1);
            Check.is("distance 1", x.cell(0, 18), 1);
            x.deliver(1);
            closedWithDestroy(x, "byte " + k);
            Check.is("outer key moved", x.key(0, 0, 1), Inside.keyAfterWrap(outer));
            Check.is("inner key moved", x.key(0, 1, 1), Inside.keyAfterWrap(inner));
            Check.is("digest key did not", x.key(0, 1, 3), digest);
        }
    }

    /** "It is KNOWN by a digest key if the first pair is 0": the check alone would fit. */
    private static void firstPairMustBeZero() {
        for (int at = 0; at < 2; at++) {
            OnionCells x = Made.through(1);
            x.begin(0, 1, 0);
            int digest = x.relay(1, 0, 10);
            x.deliver(1);
            int[] was = Inside.sealed(digest, Inside.CONNECTED, 1, 0);
            Inside.swap(x, 0, was, Inside.resealed(digest, was, at, 1));
            x.deliver(1);
            closedWithDestroy(x, "a first pair that is not 0");
        }
    }

    /**
     * "(also without a hop d, and nothing is unwrapped then)": a forged TRUNCATED makes hop 1 vanish while a cell of
     * it is on its way behind.
     */
    private static void withoutSuchAHopCloses() {
        OnionCells x = Made.through(1, 2);
        x.begin(0, 1, 0);
        x.begin(0, 2, 1);
        int digest = x.relay(1, 0, 10);
        x.deliver(1);
        Inside.swap(x, 1, Inside.sealed(digest, Inside.CONNECTED, 1, 0),
                Inside.sealed(digest, Inside.TRUNCATED, 0, 0));
        x.deliver(2);
        Check.is("one hop", x.circuit(0, 1), 1);
        x.deliver(2);
        int outer = x.key(0, 0, 1);
        Check.is("READY yet", x.circuit(0, 0), OnionCells.READY);
        Check.is("distance 1", x.cell(0, 18), 1);
        x.damage(0, 4, x.cell(0, 8) ^ Inside.TRUNCATED);
        x.deliver(1);
        closedWithDestroy(x, "a hop that is not there, whatever the order looks like");
        Check.is("nothing was unwrapped", x.key(0, 0, 1), outer);
    }

    /** "DESTROY, at the client: .. it is CLOSED, its streams are not there." */
    private static void destroyCloses() {
        OnionCells x = Made.streaming(2, 0, 1);
        x.extend(0, 2, 6);
        x.damage(0, 3, 1);
        x.deliver(2);
        Check.is("CLOSED", x.circuit(0, 0), OnionCells.CLOSED);
        Check.is("waits for none", x.circuit(0, 5), -1);
        Check.is("no stream", x.circuit(0, 7), 0);
        Check.is("hops are kept", x.circuit(0, 1), 1);
        Check.is("nothing is sent", x.count(0), 0);
    }

    /** "DESTROY, at the client: .. (or, without one, the relay waited for)". */
    private static void destroyFromTheOneWaitedFor() {
        OnionCells x = new OnionCells();
        x.create(0, 1, 5);
        x.damage(0, 0, x.cell(0, 4));
        x.damage(0, 1, x.cell(0, 5));
        x.deliver(1);
        Check.is("BUILDING yet", x.circuit(0, 0), OnionCells.BUILDING);
        x.deliver(1);
        Check.is("CLOSED", x.circuit(0, 0), OnionCells.CLOSED);
        Check.is("waits for none", x.circuit(0, 5), -1);
        Check.is("nothing is sent", x.count(0), 0);
        Check.is("nothing is stray", x.count(3), 0);
    }

    /** "2 EXTENDED: if it is BUILDING ..; else it is closed." */
    private static void extendedWhenReady() {
        OnionCells x = Made.through(1);
        forge(x, Inside.EXTENDED, 0, 4, 1, 2, 3, 4);
        x.deliver(1);
        closedWithDestroy(x, "EXTENDED when READY");
    }

    /** CONNECTED from the first hop becomes an EXTENDED that fits, while an EXTEND to relay 3 is on its way. */
    private static void forgeExtended(OnionCells x) {
        x.begin(0, 1, 0);
        int digest = x.relay(1, 0, 10);
        x.extend(0, 3, 5);
        x.deliver(1);
        int publicX = Inside.raise(17, 5);
        int h = Inside.agreed(3, 3000, publicX, 0);
        int publicY = Inside.publicY(3, publicX, 0);
        Inside.swap(x, 1, Inside.sealed(digest, Inside.CONNECTED, 1, 0), Inside.sealed(digest,
                Inside.EXTENDED, 0, 4, publicY >> 8, publicY & 255, h >>> 24, h >>> 16 & 255));
    }

    /** "2 EXTENDED: if .. k is its last hop ..; else it is closed." */
    private static void extendedFromAnotherHop() {
        OnionCells x = Made.through(1, 2);
        forgeExtended(x);
        x.deliver(2);
        closedWithDestroy(x, "EXTENDED from a hop that is not the last");
        Check.is("two hops", x.circuit(0, 1), 2);
    }

    /** "2 EXTENDED: if it is BUILDING, and k is its last hop: as with CREATED, with the two pairs of data". */
    private static void extendedThatFits() {
        OnionCells x = Made.through(1);
        forgeExtended(x);
        x.deliver(2);
        Check.is("READY", x.circuit(0, 0), OnionCells.READY);
        Check.is("an EXTENDED that fits", x.circuit(0, 3), 3);
        Check.is("its key", x.key(0, 1, 0), Inside.key(Inside.agreed(3, 3000, Inside.raise(17, 5), 0), 0));
    }

    /** "4 CONNECTED: if it was ASKED, it is OPEN, its window 4." "(If not so, nothing.)" */
    private static void connectedOrders() {
        OnionCells asked = Made.through(1);
        forge(asked, Inside.CONNECTED, 1, 0);
        asked.deliver(1);
        Check.is("OPEN", asked.circuit(0, 6), 2);
        Check.is("its window", asked.circuit(0, 9), 4);
        OnionCells open = Made.streaming(2, 0, 1);
        open.send(0, 2, 1, 1);
        open.deliver(2);
        forge(open, Inside.CONNECTED, 2, 0);
        open.deliver(1);
        Check.is("OPEN still", open.circuit(0, 7), 2);
        Check.is("CONNECTED of one OPEN does nothing", open.circuit(0, 10), 3);
    }

    /** "5 DATA: if it is OPEN, the data are kept (the bytes of the length, at most 7), the latest ones." */
    private static void dataOrders() {
        OnionCells asked = Made.through(1);
        forge(asked, Inside.DATA, 1, 2, 8, 9);
        asked.deliver(1);
        Check.is("DATA of one ASKED does nothing", asked.data(0, 0), -1);
        Check.is("ASKED still", asked.circuit(0, 6), 1);
        for (int length : new int[] {0, 1, 6, 7, 8, 200, 255}) {
            OnionCells open = Made.streaming(2, 0, 1);
            open.send(0, 2, 7, 100);
            open.deliver(2);
            forge(open, Inside.DATA, 2, length, 1, 2, 3, 4, 5, 6, 7);
            open.deliver(1);
            for (int i = 0; i < 9; i++) {
                boolean counts = i < length && i < 7;
                Check.is("byte " + i + " of the length " + length, open.data(0, i), counts ? i + 1 : -1);
            }
            Check.is("any other byte", open.data(0, length == 0 ? 0 : length), -1);
        }
    }

    /** "6 END: it is not there." */
    private static void endOrders() {
        OnionCells asked = Made.through(1);
        forge(asked, Inside.END, 1, 0);
        asked.deliver(1);
        Check.is("END of one ASKED", asked.circuit(0, 6), 0);
        OnionCells open = Made.streaming(2, 0, 1);
        forge(open, Inside.END, 2, 0);
        open.deliver(1);
        Check.is("END of one OPEN", open.circuit(0, 7), 0);
        Check.is("no window then", open.circuit(0, 10), 0);
        Check.is("the other one is there", open.circuit(0, 6), 1);
    }

    /** "7 WINDOW: if it is OPEN, its window becomes 2 more." */
    private static void windowOrders() {
        OnionCells asked = Made.through(1);
        forge(asked, Inside.WINDOW, 1, 0);
        asked.deliver(1);
        Check.is("WINDOW of one ASKED does nothing", asked.circuit(0, 6), 1);
        Check.is("no window", asked.circuit(0, 9), 0);
        OnionCells open = Made.streaming(2, 0, 1);
        forge(open, Inside.WINDOW, 2, 0);
        open.deliver(1);
        Check.is("a window may go beyond the first", open.circuit(0, 10), 6);
    }

    /** "Of a stream .., 1 .. 3: .. (If not so, nothing.)": there is no such stream. */
    private static void ordersOfNoStream() {
        for (int order = Inside.CONNECTED; order <= Inside.WINDOW; order++) {
            for (int stream : new int[] {0, 4, 255}) {
                OnionCells x = Made.streaming(2, 0, 1);
                forge(x, order, stream, 1, 5);
                x.deliver(1);
                nothingHappened(x, "order " + order + " of stream " + stream);
            }
        }
    }

    private static void nothingHappened(OnionCells x, String what) {
        Check.is("READY after " + what, x.circuit(0, 0), OnionCells.READY);
        Check.is("stream 1 after " + what, x.circuit(0, 6), 1);
        Check.is("stream 2 after " + what, x.circuit(0, 7), 2);
        Check.is("its window", x.circuit(0, 10), 4);
        Check.is("stream 3 after " + what, x.circuit(0, 8), 0);
        Check.is("its window", x.circuit(0, 11), 0);
        Check.is("no data", x.data(0, 0), -1);
        Check.is("nothing is sent", x.count(0), 0);
        Check.is("nothing is stray", x.count(3), 0);
    }

    /** "Of a stream of hop k ..: (If not so, nothing.)": it is not there, never was or has ended. */
    private static void ordersOfAStreamNotThere() {
        for (int order = Inside.CONNECTED; order <= Inside.WINDOW; order++) {
            OnionCells never = Made.streaming(2, 0, 1);
            forge(never, order, 3, 1, 5);
            never.deliver(1);
            nothingHappened(never, "order " + order + " of a stream that never was");
            OnionCells ended = Made.streaming(2, 0, 1);
            ended.begin(0, 3, 0);
            ended.deliver(2);
            ended.end(0, 3);
            ended.deliver(1);
            forge(ended, order, 3, 1, 5);
            ended.deliver(1);
            nothingHappened(ended, "order " + order + " of a stream that has ended");
        }
    }

    /** "Of a stream of hop k": it is there, but of another hop. */
    private static void ordersOfAStreamOfAnotherHop() {
        for (int order = Inside.CONNECTED; order <= Inside.WINDOW; order++) {
            OnionCells open = Made.streaming(2, 1, 1, 2);
            forge(open, order, 2, 1, 5);
            open.deliver(1);
            nothingHappened(open, "order " + order + " from another hop");
            OnionCells asked = Made.through(1, 2);
            forge(asked, order, 3, 1, 5);
            asked.begin(0, 3, 1);
            asked.deliver(1);
            Check.is("ASKED still", asked.circuit(0, 8), 1);
        }
    }

    private static OnionCells threeStreams() {
        OnionCells x = Made.through(1, 2, 3);
        x.begin(0, 1, 0);
        x.begin(0, 2, 1);
        x.begin(0, 3, 2);
        x.deliver(100);
        return x;
    }

    /** "9 TRUNCATED: the hops behind k are hops no more, their streams not there". */
    private static void truncatedFromTheFirstHop() {
        OnionCells x = threeStreams();
        x.truncate(0, 0);
        x.deliver(100);
        Check.is("one hop", x.circuit(0, 1), 1);
        Check.is("READY", x.circuit(0, 0), OnionCells.READY);
        Check.is("the first hop", x.circuit(0, 2), 1);
        Check.is("no second hop", x.circuit(0, 3), -1);
        Check.is("no third hop", x.circuit(0, 4), -1);
        Check.is("stream of hop 0", x.circuit(0, 6), 2);
        Check.is("its window", x.circuit(0, 9), 4);
        Check.is("stream of hop 1", x.circuit(0, 7), 0);
        Check.is("stream of hop 2", x.circuit(0, 8), 0);
        Check.index("no keys of the second hop", () -> x.key(0, 1, 0));
    }

    /** "9 TRUNCATED: the hops behind k": there is none. */
    private static void truncatedFromTheLastHop() {
        OnionCells x = threeStreams();
        x.truncate(0, 2);
        x.deliver(100);
        Check.is("three hops", x.circuit(0, 1), 3);
        Check.is("READY", x.circuit(0, 0), OnionCells.READY);
        for (int s = 1; s <= 3; s++) {
            Check.is("stream " + s, x.circuit(0, 5 + s), 2);
            Check.is("window of " + s, x.circuit(0, 8 + s), 4);
        }
    }

    /** "9 TRUNCATED: .. if it was BUILDING, it is READY", from any hop. */
    private static void truncatedWhileBuilding() {
        for (int hop = 0; hop < 2; hop++) {
            OnionCells x = Made.through(1, 2);
            x.extend(0, 3, 5);
            x.truncate(0, hop);
            x.deliver(100);
            Check.is("READY", x.circuit(0, 0), OnionCells.READY);
            Check.is("waits for none", x.circuit(0, 5), -1);
            Check.is("hops", x.circuit(0, 1), hop + 1);
            Check.is("counted as READY", x.count(4), 1);
        }
    }

    /** "Others: it is closed." */
    private static void otherOrders() {
        for (int order : new int[] {0, 1, 3, 8, 10, 255}) {
            OnionCells x = Made.streaming(2, 0, 1);
            forge(x, order, 1, 0);
            x.deliver(1);
            closedWithDestroy(x, "the order " + order);
        }
    }
}
