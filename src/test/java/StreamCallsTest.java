/** begin, send, end and data: promises 5, 6, 7 and 17. */
public final class StreamCallsTest {
    private StreamCallsTest() {
    }

    public static void main(String[] args) {
        beginAsks();
        beginRefuses();
        sendSends();
        sendWraps();
        sendOfNothing();
        sendWhileBuilding();
        windowRuns();
        sendRefuses();
        endOfAsked();
        endOfOpen();
        endRefuses();
        dataAreTheLatest();
        dataRefuse();
        Check.finish();
    }

    private static void insideIs(OnionCells x, int outer, int[] inside) {
        int[] due = Inside.wrapped(outer, inside);
        for (int k = 0; k < 14; k++) {
            Check.is("byte " + k, x.cell(0, 4 + k), due[k]);
        }
    }

    private static void beginAsks() {
        OnionCells x = Made.through(2, 4);
        int digest = x.key(0, 0, 2);
        int outer = x.key(0, 0, 0);
        x.begin(0, 3, 0);
        insideIs(x, outer, Inside.sealed(digest, Inside.BEGIN, 3, 0));
        Check.is("to the first hop", x.cell(0, 1), 2);
        Check.is("with the distance", x.cell(0, 18), 0);
        Check.is("ASKED", x.circuit(0, 8), 1);
        Check.is("no window", x.circuit(0, 11), 0);
        int backDigest = x.relay(2, 0, 10);
        int back = x.relay(2, 0, 8);
        x.deliver(1);
        insideIs(x, back, Inside.sealed(backDigest, Inside.CONNECTED, 3, 0));
        Check.is("open at the relay", x.relay(2, 0, 6), 1);
        x.deliver(1);
        Check.is("OPEN", x.circuit(0, 8), 2);
        Check.is("window", x.circuit(0, 11), 4);
        Check.is("the others are not there", x.circuit(0, 6) + x.circuit(0, 7), 0);
    }

    private static void beginRefuses() {
        OnionCells x = Made.through(1, 2);
        Check.index("begin(4, 1, 0)", () -> x.begin(4, 1, 0));
        Check.index("begin(-1, 1, 0)", () -> x.begin(-1, 1, 0));
        Check.index("begin(0, 0, 0)", () -> x.begin(0, 0, 0));
        Check.index("begin(0, 4, 0)", () -> x.begin(0, 4, 0));
        Check.state("begin(0, 1, 2)", () -> x.begin(0, 1, 2));
        Check.state("begin(0, 1, -1)", () -> x.begin(0, 1, -1));
        Check.state("begin of NONE", () -> x.begin(1, 1, 0));
        x.begin(0, 1, 0);
        Check.state("begin of one ASKED", () -> x.begin(0, 1, 1));
        x.deliver(100);
        Check.state("begin of one OPEN", () -> x.begin(0, 1, 0));
        x.extend(0, 3, 5);
        Check.state("begin while BUILDING", () -> x.begin(0, 2, 0));
        x.close(0);
        Check.state("begin of CLOSED", () -> x.begin(0, 2, 0));
    }

    private static void sendSends() {
        OnionCells x = Made.streaming(2, 0, 3);
        int digest = x.key(0, 0, 2);
        int outer = x.key(0, 0, 0);
        Check.is("send(0, 2, 3, 254)", x.send(0, 2, 3, 254), 3);
        insideIs(x, outer, Inside.sealed(digest, Inside.DATA, 2, 3, 254, 255, 0));
        Check.is("window", x.circuit(0, 10), 3);
        int backDigest = x.relay(3, 0, 10);
        int back = x.relay(3, 0, 8);
        x.deliver(1);
        Check.is("no WINDOW after one", x.count(0), 1);
        insideIs(x, back, Inside.sealed(backDigest, Inside.DATA, 2, 3, 1, 0, 255));
        x.deliver(1);
        Check.is("data 0", x.data(0, 0), 1);
        Check.is("data 1", x.data(0, 1), 0);
        Check.is("data 2", x.data(0, 2), 255);
        Check.is("data 3", x.data(0, 3), -1);
        Check.is("data -1", x.data(0, -1), -1);
    }

    private static void sendWraps() {
        OnionCells x = Made.streaming(1, 2, 1, 2, 3);
        x.send(0, 1, 7, 10);
        Check.is("distance at first", x.cell(0, 18), 2);
        x.deliver(1);
        Check.is("distance at the second", x.cell(0, 18), 1);
        Check.is("from relay 1", x.cell(0, 0), 1);
        Check.is("to relay 2", x.cell(0, 1), 2);
        x.deliver(1);
        Check.is("distance at the third", x.cell(0, 18), 0);
        x.deliver(1);
        Check.is("distance of the answer", x.cell(0, 18), 0);
        Check.is("to relay 2 again", x.cell(0, 1), 2);
        x.deliver(1);
        Check.is("distance 1 more", x.cell(0, 18), 1);
        x.deliver(1);
        Check.is("distance 2 more", x.cell(0, 18), 2);
        Check.is("to the client", x.cell(0, 1), 0);
        x.deliver(1);
        for (int i = 0; i < 7; i++) {
            Check.is("data " + i, x.data(0, i), 10 + i ^ 255);
        }
        Check.is("data 7", x.data(0, 7), -1);
        for (int hop = 0; hop < 3; hop++) {
            for (int k = 0; k < 4; k++) {
                Check.is("key " + k + " of hop " + hop, x.key(0, hop, k), x.relay(hop + 1, 0, 7 + k));
            }
        }
    }

    private static void sendOfNothing() {
        OnionCells x = Made.streaming(1, 0, 1);
        x.send(0, 1, 2, 7);
        x.deliver(100);
        Check.is("data", x.data(0, 0), 248);
        Check.is("send(0, 1, 0, 255)", x.send(0, 1, 0, 255), 2);
        x.deliver(100);
        Check.is("the latest data are none", x.data(0, 0), -1);
    }

    private static void sendWhileBuilding() {
        OnionCells x = Made.streaming(1, 0, 1);
        x.extend(0, 2, 5);
        Check.is("send while BUILDING", x.send(0, 1, 1, 1), 3);
        x.deliver(100);
        Check.is("data", x.data(0, 0), 254);
        Check.is("READY with two hops", x.circuit(0, 1), 2);
    }

    private static void windowRuns() {
        OnionCells x = Made.streaming(1, 0, 1);
        for (int left = 3; left >= 0; left--) {
            Check.is("window", x.send(0, 1, 1, left), left);
        }
        Check.state("send with the window 0", () -> x.send(0, 1, 1, 1));
        x.deliver(4);
        Check.is("DATA, DATA, WINDOW, DATA, DATA, WINDOW", x.count(0), 6);
        x.deliver(2);
        Check.is("window before WINDOW", x.circuit(0, 9), 0);
        Check.is("the second data are the latest", x.data(0, 0), 253);
        x.deliver(1);
        Check.is("window after WINDOW", x.circuit(0, 9), 2);
        x.deliver(3);
        Check.is("window after both", x.circuit(0, 9), 4);
        x.send(0, 1, 1, 1);
        x.deliver(100);
        Check.is("an odd count gives none", x.circuit(0, 9), 3);
        x.end(0, 1);
        x.begin(0, 1, 0);
        x.deliver(100);
        x.send(0, 1, 1, 1);
        x.deliver(100);
        Check.is("the count begins anew", x.circuit(0, 9), 3);
    }

    private static void sendRefuses() {
        OnionCells x = Made.streaming(1, 0, 1);
        Check.index("send(4, 1, 9, 0)", () -> x.send(4, 1, 9, 0));
        Check.index("send(0, 0, 1, 0)", () -> x.send(0, 0, 1, 0));
        Check.index("send(0, 4, 1, 0)", () -> x.send(0, 4, 1, 0));
        Check.argument("send(0, 1, 8, 0)", () -> x.send(0, 1, 8, 0));
        Check.argument("send(0, 1, -1, 0)", () -> x.send(0, 1, -1, 0));
        Check.argument("send(0, 1, 1, 256)", () -> x.send(0, 1, 1, 256));
        Check.argument("send(0, 1, 0, -1)", () -> x.send(0, 1, 0, -1));
        Check.argument("send(0, 2, 8, 0) of none", () -> x.send(0, 2, 8, 0));
        Check.state("send of a stream that is not there", () -> x.send(0, 2, 1, 0));
        x.begin(0, 2, 0);
        Check.state("send of one ASKED", () -> x.send(0, 2, 1, 0));
        x.close(0);
        Check.state("send of CLOSED", () -> x.send(0, 1, 1, 0));
        Check.is("BEGIN and DESTROY alone", x.count(0), 2);
    }

    private static void endOfAsked() {
        OnionCells x = Made.through(1);
        x.begin(0, 2, 0);
        int digest = x.key(0, 0, 2);
        int outer = x.key(0, 0, 0);
        Check.is("end of one ASKED", x.end(0, 2), 1);
        Check.is("not there", x.circuit(0, 7), 0);
        x.deliver(1);
        insideIs(x, outer, Inside.sealed(digest, Inside.END, 2, 0));
        x.deliver(1);
        Check.is("closed at the relay", x.relay(1, 0, 5), 0);
        x.deliver(1);
        Check.is("CONNECTED comes too late", x.circuit(0, 7), 0);
        Check.is("the circuit stays", x.circuit(0, 0), OnionCells.READY);
    }

    private static void endOfOpen() {
        OnionCells x = Made.streaming(3, 1, 1, 2);
        Check.is("end of one OPEN", x.end(0, 3), 2);
        Check.is("to its hop", x.cell(0, 18), 1);
        Check.is("not there", x.circuit(0, 8), 0);
        Check.is("no window", x.circuit(0, 11), 0);
        Check.is("open at the relay", x.relay(2, 0, 6), 1);
        Check.is("two cells, no answer", x.deliver(100), 2);
        Check.is("closed at the relay", x.relay(2, 0, 6), 0);
        x.begin(0, 3, 0);
        x.deliver(100);
        Check.is("begun anew, at another hop", x.relay(1, 0, 6), 1);
    }

    private static void endRefuses() {
        OnionCells x = Made.streaming(1, 0, 1);
        Check.index("end(4, 1)", () -> x.end(4, 1));
        Check.index("end(-1, 1)", () -> x.end(-1, 1));
        Check.index("end(0, 0)", () -> x.end(0, 0));
        Check.index("end(0, 4)", () -> x.end(0, 4));
        Check.state("end of a stream that is not there", () -> x.end(0, 2));
        x.end(0, 1);
        Check.state("end twice", () -> x.end(0, 1));
        Check.is("one END alone", x.count(0), 1);
    }

    private static void dataAreTheLatest() {
        OnionCells x = Made.streaming(1, 0, 1, 2);
        x.begin(0, 2, 1);
        x.deliver(100);
        Made.lay(x, 1, 3);
        x.send(0, 1, 3, 1);
        x.deliver(100);
        x.send(0, 2, 2, 9);
        x.deliver(100);
        Check.is("of the other stream", x.data(0, 0), 246);
        Check.is("no third byte is left", x.data(0, 2), -1);
        Check.is("none of another circuit", x.data(1, 0), -1);
        x.end(0, 2);
        x.close(0);
        x.deliver(100);
        Check.is("kept when it is CLOSED", x.data(0, 0), 246);
    }

    private static void dataRefuse() {
        OnionCells x = new OnionCells();
        Check.index("data(4, 0)", () -> x.data(4, 0));
        Check.index("data(-1, 0)", () -> x.data(-1, 0));
        Check.is("data(0, MAX)", x.data(0, Integer.MAX_VALUE), -1);
        Check.is("data(0, MIN)", x.data(0, Integer.MIN_VALUE), -1);
    }
}
