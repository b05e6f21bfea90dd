/** A client, four relays and the cells between them, as ../shared/DOC.md says. */
public final class OnionCells {
    public static final int NOBODY = -1;
    public static final int NONE = 0, BUILDING = 1, READY = 2, CLOSED = 3;

    private static final int CLIENT = 0;
    private static final int RELAYS = 4, CIRCUITS = 4, HOPS = 3, STREAMS = 3;

    private static final int CREATE = 1, CREATED = 2, RELAY = 3, DESTROY = 4;

    private static final int EXTEND = 1, EXTENDED = 2, BEGIN = 3, CONNECTED = 4, DATA = 5;
    private static final int END = 6, WINDOW = 7, TRUNCATE = 8, TRUNCATED = 9;

    private static final int KEYS = 4;
    private static final int FORWARD = 0, BACKWARD = 1, DIGEST_FORWARD = 2, DIGEST_BACKWARD = 3;

    private static final int NOT_THERE = 0, ASKED = 1, OPEN = 2;

    private static final int ROOM = 20, BYTES = 14, MOST_DATA = 7, HIGHEST_BYTE = 255;
    private static final int CHECK_AT = 2, ORDER_AT = 4, STREAM_AT = 5, LENGTH_AT = 6, DATA_AT = 7;

    private static final int MODULUS = 65521, BASE = 17, HIGHEST_EXPONENT = 65519;
    private static final int FIRST_WINDOW = 4, WINDOW_STEP = 2;
    private static final int MOST_DELIVERED = 100;

    private final Row row;
    private final Relay[] relays;
    private final Circuit[] circuits;
    private int came;
    private int strays;

    public OnionCells() {
        row = new Row();
        relays = new Relay[RELAYS];
        for (int i = 0; i < RELAYS; i++) {
            relays[i] = new Relay(i + 1, row);
        }
        circuits = new Circuit[CIRCUITS];
        for (int i = 0; i < CIRCUITS; i++) {
            circuits[i] = new Circuit(i, row, relays);
        }
    }

    public int secret(int relay, int b)
            throws IndexOutOfBoundsException, IllegalArgumentException, IllegalStateException {
        checkRelay(relay);
        checkExponent(b);
        Relay changed = relays[relay - 1];
        checkState(!changed.hasPassage());
        changed.takeSecret(b);
        return changed.publicKey;
    }

    public int create(int circuit, int relay, int x)
            throws IndexOutOfBoundsException, IllegalArgumentException, IllegalStateException {
        checkCircuit(circuit);
        checkRelay(relay);
        checkExponent(x);
        Circuit begun = circuits[circuit];
        checkState(!begun.isLive());
        begun.startAnew(relay, x);
        return row.size;
    }

    public int extend(int circuit, int relay, int x)
            throws IndexOutOfBoundsException, IllegalArgumentException, IllegalStateException {
        checkCircuit(circuit);
        checkRelay(relay);
        checkExponent(x);
        Circuit longer = circuits[circuit];
        checkArgument(!longer.goesThrough(relay));
        checkState(longer.state == READY && longer.hops < HOPS);
        longer.askForHop(relay, x);
        return row.size;
    }

    public void begin(int circuit, int stream, int hop)
            throws IndexOutOfBoundsException, IllegalStateException {
        checkCircuit(circuit);
        checkStream(stream);
        Circuit carrier = circuits[circuit];
        checkState(carrier.state == READY && carrier.hasHop(hop));
        checkState(carrier.streams[stream - 1].state == NOT_THERE);
        carrier.askForStream(stream, hop);
    }

    public int send(int circuit, int stream, int n, int v)
            throws IndexOutOfBoundsException, IllegalArgumentException, IllegalStateException {
        checkCircuit(circuit);
        checkStream(stream);
        checkArgument(n >= 0 && n <= MOST_DATA);
        checkArgument(isByte(v));
        Stream sending = circuits[circuit].streams[stream - 1];
        checkState(sending.state == OPEN && sending.window > 0);
        circuits[circuit].sendData(stream, n, v);
        return sending.window;
    }

    public int end(int circuit, int stream) throws IndexOutOfBoundsException, IllegalStateException {
        checkCircuit(circuit);
        checkStream(stream);
        int had = circuits[circuit].streams[stream - 1].state;
        checkState(had != NOT_THERE);
        circuits[circuit].endStream(stream);
        return had;
    }

    public int truncate(int circuit, int hop) throws IndexOutOfBoundsException, IllegalStateException {
        checkCircuit(circuit);
        Circuit shorter = circuits[circuit];
        checkState(shorter.isLive() && shorter.hasHop(hop));
        shorter.askToTruncate(hop);
        return shorter.hops;
    }

    public void close(int circuit) throws IndexOutOfBoundsException, IllegalStateException {
        checkCircuit(circuit);
        checkState(circuits[circuit].isLive());
        circuits[circuit].shut();
    }

    public int deliver(int n) throws IllegalArgumentException {
        checkArgument(n >= 1 && n <= MOST_DELIVERED);
        int delivered = 0;
        while (delivered < n && row.size > 0) {
            Cell coming = row.takeOut(0);
            came++;
            delivered++;
            boolean fits = coming.receiver == CLIENT
                    ? circuits[coming.circuit].takes(coming)
                    : relays[coming.receiver - 1].takes(coming);
            if (!fits) {
                strays++;
            }
        }
        return delivered;
    }

    public int damage(int i, int k, int mask) throws IndexOutOfBoundsException, IllegalArgumentException {
        checkIndex(i, row.size);
        checkIndex(k, BYTES);
        checkArgument(isByte(mask));
        int[] bytes = row.cells[i].bytes;
        int was = bytes[k];
        bytes[k] = was ^ mask;
        return was;
    }

    public int lose(int i) throws IndexOutOfBoundsException {
        checkIndex(i, row.size);
        row.lost++;
        return row.takeOut(i).command;
    }

    public int cell(int i, int what) throws IndexOutOfBoundsException {
        checkIndex(i, row.size);
        checkIndex(what, 4 + BYTES + 1);
        Cell asked = row.cells[i];
        switch (what) {
            case 0: return asked.sender;
            case 1: return asked.receiver;
            case 2: return asked.circuit;
            case 3: return asked.command;
            case 4 + BYTES: return asked.distance;
            default: return asked.bytes[what - 4];
        }
    }

    public int circuit(int circuit, int what) throws IndexOutOfBoundsException {
        checkCircuit(circuit);
        checkIndex(what, 12);
        Circuit asked = circuits[circuit];
        switch (what) {
            case 0: return asked.state;
            case 1: return asked.hops;
            case 2:
            case 3:
            case 4: return asked.hasHop(what - 2) ? asked.hopRelays[what - 2] : NOBODY;
            case 5: return asked.waited;
            case 6:
            case 7:
            case 8: return asked.streams[what - 6].state;
            default: return asked.streams[what - 9].window;
        }
    }

    public int key(int circuit, int hop, int k) throws IndexOutOfBoundsException {
        checkCircuit(circuit);
        checkIndex(hop, circuits[circuit].hops);
        checkIndex(k, KEYS);
        return circuits[circuit].keys[hop][k];
    }

    public int relay(int relay, int circuit, int what) throws IndexOutOfBoundsException {
        checkRelay(relay);
        checkCircuit(circuit);
        checkIndex(what, 7 + KEYS);
        Passage asked = relays[relay - 1].passages[circuit];
        switch (what) {
            case 0: return asked.there ? 1 : 0;
            case 1: return asked.before;
            case 2: return asked.behind;
            case 3: return asked.waited;
            case 4:
            case 5:
            case 6: return asked.open[what - 4] ? 1 : 0;
            default: return asked.keys[what - 7];
        }
    }

    public int data(int circuit, int i) throws IndexOutOfBoundsException {
        checkCircuit(circuit);
        Circuit asked = circuits[circuit];
        return i >= 0 && i < asked.latestLength ? asked.latest[i] : NOBODY;
    }

    public int count(int what) throws IndexOutOfBoundsException {
        checkIndex(what, 5);
        switch (what) {
            case 0: return row.size;
            case 1: return came;
            case 2: return row.lost;
            case 3: return strays;
            default: return readyCircuits();
        }
    }

    public float loss() {
        int gone = came + row.lost;
        return gone == 0 ? 0f : (float) row.lost / (float) gone;
    }

    private int readyCircuits() {
        int ready = 0;
        for (int i = 0; i < CIRCUITS; i++) {
            if (circuits[i].state == READY) {
                ready++;
            }
        }
        return ready;
    }

    private static void checkCircuit(int circuit) {
        checkIndex(circuit, CIRCUITS);
    }

    private static void checkRelay(int relay) {
        if (relay < 1 || relay > RELAYS) {
            throw new IndexOutOfBoundsException();
        }
    }

    private static void checkStream(int stream) {
        if (!isStream(stream)) {
            throw new IndexOutOfBoundsException();
        }
    }

    private static void checkIndex(int index, int bound) {
        if (index < 0 || index >= bound) {
            throw new IndexOutOfBoundsException();
        }
    }

    private static void checkExponent(int x) {
        checkArgument(x >= 1 && x <= HIGHEST_EXPONENT);
    }

    private static void checkArgument(boolean good) {
        if (!good) {
            throw new IllegalArgumentException();
        }
    }

    private static void checkState(boolean good) {
        if (!good) {
            throw new IllegalStateException();
        }
    }

    private static boolean isByte(int value) {
        return value >= 0 && value <= HIGHEST_BYTE;
    }

    private static boolean isStream(int stream) {
        return stream >= 1 && stream <= STREAMS;
    }

    /** The arithmetic by which the client and a relay come to the same keys. */
    private static final class Agreement {
        /** Longs, since the product of two numbers below the modulus may not fit an int. */
        static int raise(int number, int exponent) {
            long raised = 1;
            for (int bit = 15; bit >= 0; bit--) {
                raised = raised * raised % MODULUS;
                if ((exponent >>> bit & 1) != 0) {
                    raised = raised * number % MODULUS;
                }
            }
            return (int) raised;
        }

        static int mix(int h, int x) {
            int mixed = (h ^ x) * 16777619;
            return mixed ^ (mixed >>> 15);
        }

        static int shared(int s, int t, int publicX, int publicY, int node) {
            int h = mix(1234567, s);
            h = mix(h, t);
            h = mix(h, publicX);
            h = mix(h, publicY);
            return mix(h, node);
        }

        static int tag(int h) {
            return h >>> 16;
        }

        static void fillKeys(int[] keys, int h) {
            int next = h;
            for (int k = 0; k < KEYS; k++) {
                next = mix(next, k + 1);
                keys[k] = next;
            }
        }
    }

    private static final class Cell {
        final int[] bytes = new int[BYTES];
        int sender;
        int receiver;
        int circuit;
        int command;
        int distance;

        void address(int from, int to, int number, int what) {
            sender = from;
            receiver = to;
            circuit = number;
            command = what;
            distance = 0;
            for (int i = 0; i < BYTES; i++) {
                bytes[i] = 0;
            }
        }

        void writeOrder(int order, int stream, int length) {
            bytes[ORDER_AT] = order;
            bytes[STREAM_AT] = stream;
            bytes[LENGTH_AT] = length;
        }

        void copyBytes(Cell from) {
            for (int i = 0; i < BYTES; i++) {
                bytes[i] = from.bytes[i];
            }
        }

        int pair(int at) {
            return bytes[at] << 8 | bytes[at + 1];
        }

        void putPair(int at, int number) {
            bytes[at] = number >>> 8 & HIGHEST_BYTE;
            bytes[at + 1] = number & HIGHEST_BYTE;
        }

        /** A damaged cell may tell a length that no cell can hold. */
        int dataLength() {
            return bytes[LENGTH_AT] < MOST_DATA ? bytes[LENGTH_AT] : MOST_DATA;
        }

        /** Wrapping twice with the same key unwraps; answers what the key is afterwards. */
        int wrap(int key) {
            int running = key;
            for (int i = 0; i < BYTES; i++) {
                running = running * 1664525 + 1013904223;
                bytes[i] ^= running >>> 24;
            }
            return running;
        }

        /** What a digest key becomes by these bytes; the check itself counts as 0. */
        int fed(int key) {
            int running = key;
            for (int i = 0; i < BYTES; i++) {
                boolean ofCheck = i == CHECK_AT || i == CHECK_AT + 1;
                running = Agreement.mix(running, ofCheck ? 0 : bytes[i]);
            }
            return running;
        }

        boolean isKnownBy(int fedKey) {
            return pair(0) == 0 && pair(CHECK_AT) == fedKey >>> 16;
        }
    }

    /** The cells on their way. All are made once, and used again when they have come or are lost. */
    private static final class Row {
        final Cell[] cells = new Cell[ROOM];
        int size;
        int lost;
        private final Cell withoutRoom = new Cell();
        /** The cell that was taken out last: it stays whole while what it causes is sent. */
        private Cell inHand = new Cell();

        Row() {
            for (int i = 0; i < ROOM; i++) {
                cells[i] = new Cell();
            }
        }

        /** Without room the sender fills a cell that nobody sees, so that its keys move on all the same. */
        Cell add(int from, int to, int circuit, int command) {
            Cell added = withoutRoom;
            if (size < ROOM) {
                added = cells[size];
                size++;
            } else {
                lost++;
            }
            added.address(from, to, circuit, command);
            return added;
        }

        Cell takeOut(int i) {
            Cell out = cells[i];
            size--;
            for (int j = i; j < size; j++) {
                cells[j] = cells[j + 1];
            }
            cells[size] = inHand;
            inHand = out;
            return out;
        }
    }

    private static final class Relay {
        final Passage[] passages = new Passage[CIRCUITS];
        int publicKey;
        private final int node;
        private final Row row;
        private int secret;
        private int answered;

        Relay(int node, Row row) {
            this.node = node;
            this.row = row;
            secret = 1000 * node;
            publicKey = Agreement.raise(BASE, secret);
            for (int i = 0; i < CIRCUITS; i++) {
                passages[i] = new Passage(node, i, row);
            }
        }

        void takeSecret(int b) {
            secret = b;
            publicKey = Agreement.raise(BASE, b);
        }

        boolean hasPassage() {
            for (int i = 0; i < CIRCUITS; i++) {
                if (passages[i].there) {
                    return true;
                }
            }
            return false;
        }

        /** Whether the cell is no STRAY one. */
        boolean takes(Cell cell) {
            Passage passage = passages[cell.circuit];
            switch (cell.command) {
                case CREATE: return takesCreate(cell, passage);
                case CREATED: return passage.takesCreated(cell);
                case RELAY: return passage.takesRelay(cell);
                default: return passage.takesDestroy(cell);
            }
        }

        private boolean takesCreate(Cell cell, Passage passage) {
            if (passage.there) {
                return false;
            }
            int publicX = cell.pair(0);
            if (publicX == 0 || publicX >= MODULUS) {
                row.add(node, cell.sender, cell.circuit, DESTROY);
                return true;
            }
            int y = 1 + (publicX * 31 + 977 * node + answered) % HIGHEST_EXPONENT;
            answered++;
            int publicY = Agreement.raise(BASE, y);
            int h = Agreement.shared(Agreement.raise(publicX, y), Agreement.raise(publicX, secret),
                    publicX, publicY, node);
            passage.start(cell.sender, h);
            Cell back = row.add(node, cell.sender, cell.circuit, CREATED);
            back.putPair(0, publicY);
            back.putPair(2, Agreement.tag(h));
            return true;
        }
    }

    /** A circuit at a relay. */
    private static final class Passage {
        final int[] keys = new int[KEYS];
        final boolean[] open = new boolean[STREAMS];
        boolean there;
        int before = NOBODY;
        int behind = NOBODY;
        int waited = NOBODY;
        private final int[] counts = new int[STREAMS];
        private final int node;
        private final int number;
        private final Row row;

        Passage(int node, int number, Row row) {
            this.node = node;
            this.number = number;
            this.row = row;
        }

        void start(int from, int h) {
            there = true;
            before = from;
            Agreement.fillKeys(keys, h);
        }

        private void vanish() {
            there = false;
            before = NOBODY;
            behind = NOBODY;
            waited = NOBODY;
            for (int k = 0; k < KEYS; k++) {
                keys[k] = 0;
            }
            for (int s = 0; s < STREAMS; s++) {
                open[s] = false;
            }
        }

        private int next() {
            return behind != NOBODY ? behind : waited;
        }

        private void destroyNext() {
            if (next() != NOBODY) {
                row.add(node, next(), number, DESTROY);
            }
        }

        private void tearDown() {
            row.add(node, before, number, DESTROY);
            destroyNext();
            vanish();
        }

        boolean takesCreated(Cell cell) {
            if (!there || cell.sender != waited) {
                return false;
            }
            behind = waited;
            waited = NOBODY;
            Cell back = orderBack(EXTENDED, 0, 4);
            back.putPair(DATA_AT, cell.pair(0));
            back.putPair(DATA_AT + 2, cell.pair(2));
            sealBack(back);
            return true;
        }

        boolean takesDestroy(Cell cell) {
            if (!there) {
                return false;
            }
            if (cell.sender == before) {
                passOn(cell, next());
            } else if (cell.sender == behind || cell.sender == waited) {
                passOn(cell, before);
            } else {
                return false;
            }
            vanish();
            return true;
        }

        /** What was damaged stays so: the cell goes on as it came. */
        private void passOn(Cell cell, int to) {
            if (to != NOBODY) {
                row.add(node, to, number, cell.command).copyBytes(cell);
            }
        }

        boolean takesRelay(Cell cell) {
            if (!there) {
                return false;
            }
            if (cell.sender == before) {
                keys[FORWARD] = cell.wrap(keys[FORWARD]);
                boolean fits = cell.distance == 0 ? isKnown(cell) && follows(cell) : goesForward(cell);
                if (!fits) {
                    tearDown();
                }
                return true;
            }
            if (cell.sender == behind) {
                keys[BACKWARD] = cell.wrap(keys[BACKWARD]);
                relayOn(cell, before, cell.distance + 1);
                return true;
            }
            return false;
        }

        private boolean goesForward(Cell cell) {
            if (behind == NOBODY) {
                return false;
            }
            relayOn(cell, behind, cell.distance - 1);
            return true;
        }

        private boolean isKnown(Cell cell) {
            int fed = cell.fed(keys[DIGEST_FORWARD]);
            boolean known = cell.isKnownBy(fed);
            if (known) {
                keys[DIGEST_FORWARD] = fed;
            }
            return known;
        }

        private void relayOn(Cell cell, int to, int distance) {
            Cell on = row.add(node, to, number, RELAY);
            on.copyBytes(cell);
            on.distance = distance;
        }

        /** Whether the order is one that fits. */
        private boolean follows(Cell cell) {
            int stream = cell.bytes[STREAM_AT];
            switch (cell.bytes[ORDER_AT]) {
                case EXTEND:
                    return followsExtend(cell);
                case BEGIN:
                    followBegin(stream);
                    return true;
                case DATA:
                    followData(cell, stream);
                    return true;
                case END:
                    if (isOpen(stream)) {
                        open[stream - 1] = false;
                    }
                    return true;
                case TRUNCATE:
                    followTruncate();
                    return true;
                default:
                    return false;
            }
        }

        private boolean followsExtend(Cell cell) {
            int to = cell.bytes[DATA_AT];
            boolean isOther = to >= 1 && to <= RELAYS && to != node && to != before;
            if (!isOther || next() != NOBODY) {
                return false;
            }
            row.add(node, to, number, CREATE).putPair(0, cell.pair(DATA_AT + 1));
            waited = to;
            return true;
        }

        private void followBegin(int stream) {
            if (!isStream(stream) || open[stream - 1]) {
                sealBack(orderBack(END, stream, 0));
                return;
            }
            open[stream - 1] = true;
            counts[stream - 1] = 0;
            sealBack(orderBack(CONNECTED, stream, 0));
        }

        private void followData(Cell cell, int stream) {
            if (!isOpen(stream)) {
                sealBack(orderBack(END, stream, 0));
                return;
            }
            Cell back = orderBack(DATA, stream, cell.bytes[LENGTH_AT]);
            for (int i = DATA_AT; i < DATA_AT + cell.dataLength(); i++) {
                back.bytes[i] = cell.bytes[i] ^ HIGHEST_BYTE;
            }
            sealBack(back);
            counts[stream - 1]++;
            if (counts[stream - 1] % 2 == 0) {
                sealBack(orderBack(WINDOW, stream, 0));
            }
        }

        private void followTruncate() {
            destroyNext();
            behind = NOBODY;
            waited = NOBODY;
            sealBack(orderBack(TRUNCATED, 0, 0));
        }

        private boolean isOpen(int stream) {
            return isStream(stream) && open[stream - 1];
        }

        private Cell orderBack(int order, int stream, int length) {
            Cell back = row.add(node, before, number, RELAY);
            back.writeOrder(order, stream, length);
            return back;
        }

        private void sealBack(Cell back) {
            keys[DIGEST_BACKWARD] = back.fed(keys[DIGEST_BACKWARD]);
            back.putPair(CHECK_AT, keys[DIGEST_BACKWARD] >>> 16);
            keys[BACKWARD] = back.wrap(keys[BACKWARD]);
        }
    }

    /** A stream at the client; its window is 0 unless it is OPEN. */
    private static final class Stream {
        int state;
        int hop;
        int window;

        void become(int newState, int newWindow) {
            state = newState;
            window = newWindow;
        }
    }

    /** A circuit at the client. */
    private static final class Circuit {
        final int[] hopRelays = new int[HOPS];
        final int[][] keys = new int[HOPS][KEYS];
        final Stream[] streams = new Stream[STREAMS];
        final int[] latest = new int[MOST_DATA];
        int latestLength;
        int state = NONE;
        int hops;
        int waited = NOBODY;
        private int exponent;
        private final int number;
        private final Row row;
        private final Relay[] relays;

        Circuit(int number, Row row, Relay[] relays) {
            this.number = number;
            this.row = row;
            this.relays = relays;
            for (int s = 0; s < STREAMS; s++) {
                streams[s] = new Stream();
            }
        }

        boolean isLive() {
            return state == BUILDING || state == READY;
        }

        boolean hasHop(int hop) {
            return hop >= 0 && hop < hops;
        }

        boolean goesThrough(int relay) {
            for (int k = 0; k < hops; k++) {
                if (hopRelays[k] == relay) {
                    return true;
                }
            }
            return false;
        }

        void startAnew(int relay, int x) {
            hops = 0;
            dropStreamsFrom(0);
            latestLength = 0;
            waitFor(relay, x);
            row.add(CLIENT, relay, number, CREATE).putPair(0, Agreement.raise(BASE, x));
        }

        void askForHop(int relay, int x) {
            waitFor(relay, x);
            Cell asking = order(EXTEND, 0, 3);
            asking.bytes[DATA_AT] = relay;
            asking.putPair(DATA_AT + 1, Agreement.raise(BASE, x));
            sealTo(hops - 1, asking);
        }

        private void waitFor(int relay, int x) {
            state = BUILDING;
            waited = relay;
            exponent = x;
        }

        void askForStream(int stream, int hop) {
            streams[stream - 1].hop = hop;
            streams[stream - 1].become(ASKED, 0);
            sealTo(hop, order(BEGIN, stream, 0));
        }

        void sendData(int stream, int length, int first) {
            Cell sent = order(DATA, stream, length);
            for (int i = 0; i < length; i++) {
                sent.bytes[DATA_AT + i] = first + i & HIGHEST_BYTE;
            }
            streams[stream - 1].window--;
            sealTo(streams[stream - 1].hop, sent);
        }

        void endStream(int stream) {
            streams[stream - 1].become(NOT_THERE, 0);
            sealTo(streams[stream - 1].hop, order(END, stream, 0));
        }

        void askToTruncate(int hop) {
            sealTo(hop, order(TRUNCATE, 0, 0));
        }

        private Cell order(int order, int stream, int length) {
            Cell sent = row.add(CLIENT, hopRelays[0], number, RELAY);
            sent.writeOrder(order, stream, length);
            return sent;
        }

        private void sealTo(int hop, Cell sent) {
            sent.distance = hop;
            int fed = sent.fed(keys[hop][DIGEST_FORWARD]);
            keys[hop][DIGEST_FORWARD] = fed;
            sent.putPair(CHECK_AT, fed >>> 16);
            for (int k = hop; k >= 0; k--) {
                keys[k][FORWARD] = sent.wrap(keys[k][FORWARD]);
            }
        }

        private int firstRelay() {
            return hops > 0 ? hopRelays[0] : waited;
        }

        void shut() {
            row.add(CLIENT, firstRelay(), number, DESTROY);
            becomeClosed();
        }

        private void becomeClosed() {
            state = CLOSED;
            waited = NOBODY;
            dropStreamsFrom(0);
        }

        private void dropStreamsFrom(int hop) {
            for (int s = 0; s < STREAMS; s++) {
                if (streams[s].hop >= hop) {
                    streams[s].become(NOT_THERE, 0);
                }
            }
        }

        /** Whether the cell is no STRAY one. */
        boolean takes(Cell cell) {
            if (!isLive() || cell.sender != firstRelay()) {
                return false;
            }
            switch (cell.command) {
                case CREATED: return takesCreated(cell);
                case RELAY: return takesRelay(cell);
                case DESTROY:
                    becomeClosed();
                    return true;
                default: return false;
            }
        }

        private boolean takesCreated(Cell cell) {
            if (hops > 0) {
                return false;
            }
            if (!addsHop(cell.pair(0), cell.pair(2))) {
                shut();
            }
            return true;
        }

        private boolean takesRelay(Cell cell) {
            if (hops == 0) {
                return false;
            }
            if (!isKnown(cell) || !follows(cell, cell.distance)) {
                shut();
            }
            return true;
        }

        /** Whether the tag fits, so that there is one hop more. */
        private boolean addsHop(int publicY, int tag) {
            int s = Agreement.raise(publicY, exponent);
            int t = Agreement.raise(relays[waited - 1].publicKey, exponent);
            int h = Agreement.shared(s, t, Agreement.raise(BASE, exponent), publicY, waited);
            if (Agreement.tag(h) != tag) {
                return false;
            }
            Agreement.fillKeys(keys[hops], h);
            hopRelays[hops] = waited;
            hops++;
            becomeReady();
            return true;
        }

        private void becomeReady() {
            state = READY;
            waited = NOBODY;
        }

        private boolean isKnown(Cell cell) {
            int hop = cell.distance;
            if (!hasHop(hop)) {
                return false;
            }
            for (int k = 0; k <= hop; k++) {
                keys[k][BACKWARD] = cell.wrap(keys[k][BACKWARD]);
            }
            int fed = cell.fed(keys[hop][DIGEST_BACKWARD]);
            boolean known = cell.isKnownBy(fed);
            if (known) {
                keys[hop][DIGEST_BACKWARD] = fed;
            }
            return known;
        }

        /** Whether the order is one that fits. */
        private boolean follows(Cell cell, int hop) {
            switch (cell.bytes[ORDER_AT]) {
                case EXTENDED:
                    return state == BUILDING && hop == hops - 1
                            && addsHop(cell.pair(DATA_AT), cell.pair(DATA_AT + 2));
                case CONNECTED:
                case DATA:
                case END:
                case WINDOW:
                    followOfStream(cell, hop);
                    return true;
                case TRUNCATED:
                    hops = hop + 1;
                    dropStreamsFrom(hops);
                    becomeReady();
                    return true;
                default:
                    return false;
            }
        }

        private void followOfStream(Cell cell, int hop) {
            int asked = cell.bytes[STREAM_AT];
            if (!isStream(asked) || streams[asked - 1].hop != hop) {
                return;
            }
            Stream stream = streams[asked - 1];
            int order = cell.bytes[ORDER_AT];
            if (order == END) {
                stream.become(NOT_THERE, 0);
            } else if (order == CONNECTED && stream.state == ASKED) {
                stream.become(OPEN, FIRST_WINDOW);
            } else if (order == DATA && stream.state == OPEN) {
                keepLatest(cell);
            } else if (order == WINDOW && stream.state == OPEN) {
                stream.window += WINDOW_STEP;
            }
        }

        private void keepLatest(Cell cell) {
            latestLength = cell.dataLength();
            for (int i = 0; i < latestLength; i++) {
                latest[i] = cell.bytes[DATA_AT + i];
            }
        }
    }
}
