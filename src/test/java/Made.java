/** Objects with circuits that stand already. */
final class Made {
    private Made() {
    }

    /** Circuit 0 is READY through these relays. */
    static OnionCells through(int... relays) {
        OnionCells x = new OnionCells();
        lay(x, 0, relays);
        return x;
    }

    static void lay(OnionCells x, int circuit, int... relays) {
        x.create(circuit, relays[0], 100 + relays[0]);
        x.deliver(2);
        for (int k = 1; k < relays.length; k++) {
            x.extend(circuit, relays[k], 100 + relays[k]);
            x.deliver(100);
        }
    }

    /** Circuit 0 is READY through these relays, with a stream that is OPEN at a hop. */
    static OnionCells streaming(int stream, int hop, int... relays) {
        OnionCells x = through(relays);
        x.begin(0, stream, hop);
        x.deliver(100);
        return x;
    }

    /** Fills the row up to a size, with CREATEs and DESTROYs of circuit 3 to relay 4; both must be unused. */
    static void fill(OnionCells x, int size) {
        while (x.count(0) < size) {
            x.create(3, 4, 9);
            if (x.count(0) < size) {
                x.close(3);
            }
        }
    }
}
