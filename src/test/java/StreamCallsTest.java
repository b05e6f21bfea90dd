/** begin, send, end and data: promises 5, 6, 7 and 17. */
public final class StreamCallsTest {
    private StreamCallsTest() {
    }

    public static void main(String[] args) {
        beginAsks();
        sendSends();
        sendOfEveryLength();
        sendWraps();
        sendOfNothing();
        sendWhileBuilding();
        windowRuns();
        endOfAsked();
        endOfOpen();
        dataAreTheLatest();
        dataOfNone();
        Check.finish();
    }

    private static void insideIs(OnionCells x, int outer, int[] inside) {
        int[] due = Inside.wrapped(outer, inside);
        for (int k = 0; k < 14; k++) {
            Check.is("byte " + k, x.cell(0, 4 + k), due[k]);
        }
    }

    /** Promise 5: "BEGIN of a stream to a hop of a READY circuit; it is ASKED, of that hop." */
    private static void beginAsks() {
        OnionCells x = Made.through(2, 4);
        int digest = x.key(0, 0, 2);
        int outer = x.key(0, 0, 0);
        x.begin(0, 3, 0);
        insideIs(x, outer, Inside.sealed(digest, Inside.BEGIN, 3, 0));
        Check.is("to the first hop", x.cell(0, 1), 2);
        Check.is("with the distance", x.cell(0, 18), 0);
        Check.is("ASKED", x.circuit(0, 8), 1);
        Check.is("no window", x.circuit(0, 11), 0);
        int backDigest = x.relay(2, 0, 10);
        int back = x.relay(2, 0, 8);
        x.deliver(1);
        insideIs(x, back, Inside.sealed(backDigest, Inside.CONNECTED, 3, 0));
        Check.is("open at the relay", x.relay(2, 0, 6), 1);
        x.deliver(1);
        Check.is("OPEN", x.circuit(0, 8), 2);
        Check.is("window", x.circuit(0, 11), 4);
        Check.is("the others are not there", x.circuit(0, 6) + x.circuit(0, 7), 0);
    }

    private static void sendSends() {
        OnionCells x = Made.streaming(2, 0, 3);
        int digest = x.key(0, 0, 2);
        int outer = x.key(0, 0, 0);
        Check.is("send(0, 2, 3, 254)", x.send(0, 2, 3, 254), 3);
        insideIs(x, outer, Inside.sealed(digest, Inside.DATA, 2, 3, 254, 255, 0));
        Check.is("window", x.circuit(0, 10), 3);
        int backDigest = x.relay(3, 0, 10);
        int back = x.relay(3, 0, 8);
        x.deliver(1);
        Check.is("no WINDOW after one", x.count(0), 1);
        insideIs(x, back, Inside.sealed(backDigest, Inside.DATA, 2, 3, 1, 0, 255));
        x.deliver(1);
        Check.is("data 0", x.data(0, 0), 1);
        Check.is("data 1", x.data(0, 1), 0);
        Check.is("data 2", x.data(0, 2), 255);
        Check.is("data 3", x.data(0, 3), -1);
        Check.is("data -1", x.data(0, -1), -1);
    }

    /** "n bytes (perhaps none) v, v + 1, .. (modulo 256)"; "the others are 0 when it is sent". */
    private static void sendOfEveryLength() {
        for (int n = 0; n <= 7; n++) {
            for (int v : new int[] {0, 249, 250, 255}) {
                OnionCells x = Made.streaming(2, 0, 3);
                int digest = x.key(0, 0, 2);
                int outer = x.key(0, 0, 0);
                Check.is("send of " + n, x.send(0, 2, n, v), 3);
                int[] bytes = new int[n];
                for (int i = 0; i < n; i++) {
                    bytes[i] = v + i < 256 ? v + i : v + i - 256;
                }
                insideIs(x, outer, Inside.sealed(digest, Inside.DATA, 2, n, bytes));
                x.deliver(2);
                for (int i = 0; i < 8; i++) {
                    Check.is("byte " + i + " of " + n, x.data(0, i), i < n ? 255 - bytes[i] : -1);
                }
            }
        }
    }

    /** "with the distance k", "with a distance 1 less", "with a distance 1 more": 2 .. 0, and 0 .. 2. */
    private static void sendWraps() {
        OnionCells x = Made.streaming(1, 2, 1, 2, 3);
        x.send(0, 1, 7, 10);
        Check.is("distance at first", x.cell(0, 18), 2);
        x.deliver(1);
        Check.is("distance at the second", x.cell(0, 18), 1);
        Check.is("from relay 1", x.cell(0, 0), 1);
        Check.is("to relay 2", x.cell(0, 1), 2);
        x.deliver(1);
        Check.is("distance at the third", x.cell(0, 18), 0);
        x.deliver(1);
        Check.is("distance of the answer", x.cell(0, 18), 0);
        Check.is("to relay 2 again", x.cell(0, 1), 2);
        x.deliver(1);
        Check.is("distance 1 more", x.cell(0, 18), 1);
        x.deliver(1);
        Check.is("distance 2 more", x.cell(0, 18), 2);
        Check.is("to the client", x.cell(0, 1), 0);
        x.deliver(1);
        for (int i = 0; i < 7; i++) {
            Check.is("data " + i, x.data(0, i), 10 + i ^ 255);
        }
        Check.is("data 7", x.data(0, 7), -1);
        for (int hop = 0; hop < 3; hop++) {
            for (int k = 0; k < 4; k++) {
                Check.is("key " + k + " of hop " + hop, x.key(0, hop, k), x.relay(hop + 1, 0, 7 + k));
            }
        }
    }

    /** "n bytes (perhaps none)": the data that come then are the latest, and there are none. */
    private static void sendOfNothing() {
        OnionCells x = Made.streaming(1, 0, 1);
        x.send(0, 1, 2, 7);
        x.deliver(100);
        Check.is("data", x.data(0, 0), 248);
        Check.is("send(0, 1, 0, 255)", x.send(0, 1, 0, 255), 2);
        x.deliver(100);
        Check.is("the latest data are none", x.data(0, 0), -1);
    }

    /** Promise 6: "DATA of an OPEN stream (of a circuit that is READY or BUILDING)". */
    private static void sendWhileBuilding() {
        OnionCells x = Made.streaming(1, 0, 1);
        x.extend(0, 2, 5);
        Check.is("send while BUILDING", x.send(0, 1, 1, 1), 3);
        x.deliver(100);
        Check.is("data", x.data(0, 0), 254);
        Check.is("READY with two hops", x.circuit(0, 1), 2);
    }

    /** "its window becomes 1 less: how much that is", down to 0; "its window becomes 2 more". */
    private static void windowRuns() {
        OnionCells x = Made.streaming(1, 0, 1);
        for (int left = 3; left >= 0; left--) {
            Check.is("window", x.send(0, 1, 1, left), left);
        }
        Check.state("send with the window 0", () -> x.send(0, 1, 1, 1));
        x.deliver(4);
        Check.is("DATA, DATA, WINDOW, DATA, DATA, WINDOW", x.count(0), 6);
        x.deliver(2);
        Check.is("window before WINDOW", x.circuit(0, 9), 0);
        Check.is("the second data are the latest", x.data(0, 0), 253);
        x.deliver(1);
        Check.is("window after WINDOW", x.circuit(0, 9), 2);
        x.deliver(3);
        Check.is("window after both", x.circuit(0, 9), 4);
        x.send(0, 1, 1, 1);
        x.deliver(100);
        Check.is("an odd count gives none", x.circuit(0, 9), 3);
        x.end(0, 1);
        x.begin(0, 1, 0);
        x.deliver(100);
        x.send(0, 1, 1, 1);
        x.deliver(100);
        Check.is("the count begins anew", x.circuit(0, 9), 3);
    }

    /** Promise 7: "END of a stream that is there (ASKED or OPEN) ..; it is not there then: which state it had." */
    private static void endOfAsked() {
        OnionCells x = Made.through(1);
        x.begin(0, 2, 0);
        int digest = x.key(0, 0, 2);
        int outer = x.key(0, 0, 0);
        Check.is("end of one ASKED", x.end(0, 2), 1);
        Check.is("not there", x.circuit(0, 7), 0);
        x.deliver(1);
        insideIs(x, outer, Inside.sealed(digest, Inside.END, 2, 0));
        x.deliver(1);
        Check.is("closed at the relay", x.relay(1, 0, 5), 0);
        x.deliver(1);
        Check.is("CONNECTED comes too late", x.circuit(0, 7), 0);
        Check.is("the circuit stays", x.circuit(0, 0), OnionCells.READY);
    }

    /** The same of one OPEN; it can be begun at another hop then. */
    private static void endOfOpen() {
        OnionCells x = Made.streaming(3, 1, 1, 2);
        Check.is("end of one OPEN", x.end(0, 3), 2);
        Check.is("to its hop", x.cell(0, 18), 1);
        Check.is("not there", x.circuit(0, 8), 0);
        Check.is("no window", x.circuit(0, 11), 0);
        Check.is("open at the relay", x.relay(2, 0, 6), 1);
        Check.is("two cells, no answer", x.deliver(100), 2);
        Check.is("closed at the relay", x.relay(2, 0, 6), 0);
        x.begin(0, 3, 0);
        x.deliver(100);
        Check.is("begun anew, at another hop", x.relay(1, 0, 6), 1);
    }

    /** Promise 17: "the data that came latest for a circuit", of any of its streams. */
    private static void dataAreTheLatest() {
        OnionCells x = Made.streaming(1, 0, 1, 2);
        x.begin(0, 2, 1);
        x.deliver(100);
        Made.lay(x, 1, 3);
        x.send(0, 1, 3, 1);
        x.deliver(100);
        x.send(0, 2, 2, 9);
        x.deliver(100);
        Check.is("of the other stream", x.data(0, 0), 246);
        Check.is("no third byte is left", x.data(0, 2), -1);
        Check.is("none of another circuit", x.data(1, 0), -1);
        x.end(0, 2);
        x.close(0);
        x.deliver(100);
        Check.is("kept when it is CLOSED", x.data(0, 0), 246);
    }

    /** "NOBODY if there is none (any i)". */
    private static void dataOfNone() {
        int[] any = {Integer.MIN_VALUE, -1, 0, 1, 6, 7, 14, Integer.MAX_VALUE};
        OnionCells none = new OnionCells();
        OnionCells two = Made.streaming(1, 0, 1);
        two.send(0, 1, 2, 0);
        two.deliver(2);
        for (int i : any) {
            for (int circuit = 0; circuit < 4; circuit++) {
                Check.is("data(" + circuit + ", " + i + ") of a new one", none.data(circuit, i), -1);
            }
            Check.is("data(0, " + i + ") of two", two.data(0, i), i == 0 ? 255 : i == 1 ? 254 : -1);
            Check.is("data(1, " + i + ") of another circuit", two.data(1, i), -1);
        }
        two.close(0);
        Check.is("kept when it is CLOSED", two.data(0, 0), 255);
        two.create(0, 1, 7);
        for (int i : any) {
            Check.is("data(0, " + i + ") of one begun anew", two.data(0, i), -1);
        }
    }
}
