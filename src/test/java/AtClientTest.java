/** What cells and orders do at the client: promises 10, 14 and 15. */
public final class AtClientTest {
    private AtClientTest() {
    }

    public static void main(String[] args) {
        createdWithAnotherTag();
        createdThatIsStray();
        extendedWithAnotherTag();
        unknownCloses();
        withoutSuchAHopCloses();
        relayThatIsStray();
        destroyThatIsStray();
        destroyCloses();
        extendedOrders();
        streamOrders();
        streamOfAnotherHop();
        truncatedOrders();
        otherOrders();
        Check.finish();
    }

    /** The one cell on its way, CONNECTED of stream 1 from hop 0, becomes another order. */
    private static void forge(OnionCells x, int order, int stream, int length, int... data) {
        x.begin(0, 1, 0);
        int digest = x.relay(1, 0, 10);
        x.deliver(1);
        Inside.swap(x, 0, Inside.sealed(digest, Inside.CONNECTED, 1, 0),
                Inside.sealed(digest, order, stream, length, data));
    }

    private static void closedWithDestroy(OnionCells x, String why) {
        Check.is("CLOSED by " + why, x.circuit(0, 0), OnionCells.CLOSED);
        int last = x.count(0) - 1;
        Check.is("DESTROY by " + why, x.cell(last, 3), 4);
        Check.is("from the client", x.cell(last, 0), 0);
        Check.is("to the first hop", x.cell(last, 1), 1);
        Check.is("waits for none", x.circuit(0, 5), -1);
        Check.is("no streams", x.circuit(0, 6) + x.circuit(0, 7) + x.circuit(0, 8), 0);
        Check.is("no stray", x.count(3), 0);
    }

    private static void createdWithAnotherTag() {
        for (int k = 0; k < 4; k++) {
            OnionCells x = new OnionCells();
            x.create(0, 1, 5);
            x.deliver(1);
            x.damage(0, k, 1);
            x.deliver(1);
            closedWithDestroy(x, "byte " + k + " of CREATED");
            Check.is("no hop", x.circuit(0, 1), 0);
        }
        OnionCells x = new OnionCells();
        x.create(0, 1, 5);
        x.deliver(1);
        x.damage(0, 4, 1);
        x.deliver(1);
        Check.is("other bytes do not count", x.circuit(0, 0), OnionCells.READY);
    }

    private static void createdThatIsStray() {
        OnionCells x = new OnionCells();
        x.create(0, 1, 5);
        x.deliver(1);
        x.close(0);
        x.create(0, 2, 5);
        x.deliver(1);
        Check.is("CREATED of another relay", x.count(3), 1);
        Check.is("BUILDING still", x.circuit(0, 0), OnionCells.BUILDING);
        x.deliver(100);
        Check.is("READY then", x.circuit(0, 2), 2);
        OnionCells y = new OnionCells();
        y.create(0, 1, 5);
        y.deliver(1);
        y.close(0);
        y.create(0, 1, 5);
        y.deliver(1);
        Check.is("an old CREATED with the same exponent will do", y.circuit(0, 0), OnionCells.READY);
        y.deliver(2);
        y.extend(0, 2, 9);
        Check.is("BUILDING with a hop", y.circuit(0, 0), OnionCells.BUILDING);
        y.deliver(1);
        Check.is("CREATED of the first hop is stray now", y.count(3), 1);
        Check.is("BUILDING yet", y.circuit(0, 0), OnionCells.BUILDING);
    }

    private static void extendedWithAnotherTag() {
        for (int k = 0; k < 4; k++) {
            OnionCells x = Made.through(1);
            x.extend(0, 2, 5);
            x.deliver(2);
            x.damage(0, k, 128);
            x.deliver(2);
            closedWithDestroy(x, "byte " + k + " of CREATED at a relay");
            Check.is("one hop", x.circuit(0, 1), 1);
        }
    }

    private static void unknownCloses() {
        for (int k = 0; k < 14; k++) {
            OnionCells x = Made.through(1, 2);
            x.begin(0, 3, 1);
            x.deliver(2);
            int outer = x.key(0, 0, 1);
            int inner = x.key(0, 1, 1);
            int digest = x.key(0, 1, 3);
            x.damage(0, k, 1 << k % 8);
            x.deliver(1);
            Check.is("distance 1", x.cell(0, 18), 1);
            x.deliver(1);
            closedWithDestroy(x, "byte " + k);
            Check.is("outer key moved", x.key(0, 0, 1), Inside.keyAfterWrap(outer));
            Check.is("inner key moved", x.key(0, 1, 1), Inside.keyAfterWrap(inner));
            Check.is("digest key did not", x.key(0, 1, 3), digest);
        }
    }

    /** A forged TRUNCATED makes hop 1 vanish while a cell of it is on its way behind. */
    private static void withoutSuchAHopCloses() {
        OnionCells x = Made.through(1, 2);
        x.begin(0, 1, 0);
        x.begin(0, 2, 1);
        int digest = x.relay(1, 0, 10);
        x.deliver(1);
        Inside.swap(x, 1, Inside.sealed(digest, Inside.CONNECTED, 1, 0),
                Inside.sealed(digest, Inside.TRUNCATED, 0, 0));
        x.deliver(2);
        Check.is("one hop", x.circuit(0, 1), 1);
        x.deliver(2);
        int outer = x.key(0, 0, 1);
        Check.is("READY yet", x.circuit(0, 0), OnionCells.READY);
        Check.is("distance 1", x.cell(0, 18), 1);
        x.damage(0, 4, x.cell(0, 8) ^ Inside.TRUNCATED);
        x.deliver(1);
        closedWithDestroy(x, "a hop that is not there, whatever the order looks like");
        Check.is("nothing was unwrapped", x.key(0, 0, 1), outer);
    }

    private static void relayThatIsStray() {
        OnionCells x = Made.through(1);
        x.begin(0, 1, 0);
        x.deliver(1);
        x.close(0);
        x.deliver(1);
        Check.is("RELAY of a CLOSED one", x.count(3), 1);
        OnionCells y = Made.through(1);
        y.begin(0, 1, 0);
        y.deliver(1);
        y.close(0);
        y.create(0, 1, 8);
        int before = y.count(3);
        y.deliver(1);
        Check.is("RELAY without a hop", y.count(3), before + 1);
        Check.is("BUILDING still", y.circuit(0, 0), OnionCells.BUILDING);
        y.deliver(100);
        Check.is("READY then", y.circuit(0, 0), OnionCells.READY);
    }

    private static void destroyThatIsStray() {
        OnionCells x = Made.through(1);
        x.begin(0, 1, 0);
        x.damage(0, 0, 1);
        x.deliver(1);
        x.close(0);
        x.deliver(1);
        Check.is("DESTROY of a CLOSED one", x.count(3), 1);
        x.deliver(1);
        OnionCells y = Made.through(1);
        y.begin(0, 1, 0);
        y.damage(0, 0, 1);
        y.deliver(1);
        y.close(0);
        y.create(0, 2, 4);
        y.deliver(1);
        Check.is("DESTROY of another relay", y.count(3), 1);
        Check.is("BUILDING still", y.circuit(0, 0), OnionCells.BUILDING);
        OnionCells z = Made.through(1);
        z.begin(0, 1, 0);
        z.damage(0, 0, 1);
        z.deliver(1);
        z.close(0);
        z.create(0, 1, 4);
        z.deliver(1);
        Check.is("DESTROY of the relay waited for", z.circuit(0, 0), OnionCells.CLOSED);
    }

    private static void destroyCloses() {
        OnionCells x = Made.streaming(2, 0, 1);
        x.extend(0, 2, 6);
        x.damage(0, 3, 1);
        x.deliver(2);
        Check.is("CLOSED", x.circuit(0, 0), OnionCells.CLOSED);
        Check.is("waits for none", x.circuit(0, 5), -1);
        Check.is("no stream", x.circuit(0, 7), 0);
        Check.is("hops are kept", x.circuit(0, 1), 1);
        Check.is("nothing is sent", x.count(0), 0);
    }

    private static void extendedOrders() {
        OnionCells ready = Made.through(1);
        forge(ready, Inside.EXTENDED, 0, 4, 1, 2, 3, 4);
        ready.deliver(1);
        closedWithDestroy(ready, "EXTENDED when READY");
        OnionCells wrongHop = Made.through(1, 2);
        wrongHop.begin(0, 1, 0);
        int digest = wrongHop.relay(1, 0, 10);
        wrongHop.extend(0, 3, 5);
        wrongHop.deliver(1);
        int publicX = Inside.raise(17, 5);
        int h = Inside.agreed(3, 3000, publicX, 0);
        int publicY = Inside.publicY(3, publicX, 0);
        Inside.swap(wrongHop, 1, Inside.sealed(digest, Inside.CONNECTED, 1, 0), Inside.sealed(digest,
                Inside.EXTENDED, 0, 4, publicY >> 8, publicY & 255, h >>> 24, h >>> 16 & 255));
        wrongHop.deliver(2);
        closedWithDestroy(wrongHop, "EXTENDED from a hop that is not the last");
        OnionCells fits = Made.through(1);
        fits.begin(0, 1, 0);
        int key = fits.relay(1, 0, 10);
        fits.extend(0, 3, 5);
        fits.deliver(1);
        Inside.swap(fits, 1, Inside.sealed(key, Inside.CONNECTED, 1, 0), Inside.sealed(key,
                Inside.EXTENDED, 0, 4, publicY >> 8, publicY & 255, h >>> 24, h >>> 16 & 255));
        fits.deliver(2);
        Check.is("an EXTENDED that fits", fits.circuit(0, 3), 3);
        Check.is("its key", fits.key(0, 1, 0), Inside.key(h, 0));
    }

    private static void streamOrders() {
        OnionCells window = Made.through(1);
        forge(window, Inside.WINDOW, 1, 0);
        window.deliver(1);
        Check.is("WINDOW of one ASKED does nothing", window.circuit(0, 6), 1);
        Check.is("no window", window.circuit(0, 9), 0);
        OnionCells data = Made.through(1);
        forge(data, Inside.DATA, 1, 2, 8, 9);
        data.deliver(1);
        Check.is("DATA of one ASKED does nothing", data.data(0, 0), -1);
        Check.is("ASKED still", data.circuit(0, 6), 1);
        OnionCells end = Made.through(1);
        forge(end, Inside.END, 1, 0);
        end.deliver(1);
        Check.is("END of one ASKED", end.circuit(0, 6), 0);
        OnionCells endOfOpen = Made.streaming(2, 0, 1);
        forge(endOfOpen, Inside.END, 2, 0);
        endOfOpen.deliver(1);
        Check.is("END of one OPEN", endOfOpen.circuit(0, 7), 0);
        Check.is("no window then", endOfOpen.circuit(0, 10), 0);
        OnionCells connected = Made.streaming(2, 0, 1);
        connected.send(0, 2, 1, 1);
        connected.deliver(2);
        forge(connected, Inside.CONNECTED, 2, 0);
        connected.deliver(1);
        Check.is("CONNECTED of one OPEN does nothing", connected.circuit(0, 10), 3);
        OnionCells more = Made.streaming(2, 0, 1);
        forge(more, Inside.WINDOW, 2, 0);
        more.deliver(1);
        Check.is("a window may go beyond the first", more.circuit(0, 10), 6);
        OnionCells sevenAtMost = Made.streaming(2, 0, 1);
        forge(sevenAtMost, Inside.DATA, 2, 200, 1, 2, 3, 4, 5, 6, 7);
        sevenAtMost.deliver(1);
        Check.is("the seventh byte", sevenAtMost.data(0, 6), 7);
        Check.is("no eighth byte", sevenAtMost.data(0, 7), -1);
        for (int order = Inside.CONNECTED; order <= Inside.WINDOW; order++) {
            for (int stream : new int[] {0, 3, 4, 255}) {
                OnionCells x = Made.through(1);
                forge(x, order, stream, 1, 5);
                x.deliver(1);
                Check.is("READY still", x.circuit(0, 0), OnionCells.READY);
                Check.is("ASKED still", x.circuit(0, 6), 1);
                Check.is("stream 3 is not there", x.circuit(0, 8), 0);
                Check.is("no data", x.data(0, 0), -1);
            }
        }
    }

    private static void streamOfAnotherHop() {
        for (int order = Inside.CONNECTED; order <= Inside.WINDOW; order++) {
            OnionCells x = Made.streaming(2, 1, 1, 2);
            forge(x, order, 2, 1, 5);
            x.deliver(1);
            Check.is("OPEN still", x.circuit(0, 7), 2);
            Check.is("window as it was", x.circuit(0, 10), 4);
            Check.is("no data", x.data(0, 0), -1);
        }
    }

    private static void truncatedOrders() {
        OnionCells x = Made.through(1, 2, 3);
        x.begin(0, 2, 1);
        x.begin(0, 3, 2);
        x.deliver(100);
        forge(x, Inside.TRUNCATED, 0, 0);
        x.deliver(1);
        Check.is("one hop", x.circuit(0, 1), 1);
        Check.is("READY", x.circuit(0, 0), OnionCells.READY);
        Check.is("stream of hop 0", x.circuit(0, 6), 1);
        Check.is("stream of hop 1", x.circuit(0, 7), 0);
        Check.is("stream of hop 2", x.circuit(0, 8), 0);
        Check.is("no second hop", x.circuit(0, 3), -1);
    }

    private static void otherOrders() {
        for (int order : new int[] {0, 1, 3, 8, 10, 255}) {
            OnionCells x = Made.streaming(2, 0, 1);
            forge(x, order, 1, 0);
            x.deliver(1);
            closedWithDestroy(x, "the order " + order);
        }
    }
}
