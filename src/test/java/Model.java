import java.util.ArrayList;
import java.util.Arrays;
import java.util.List;

/** The document told a second time, apart from the program, for answers to compare with. */
final class Model {
    static final class C {
        int from, to, circuit, command, distance;
        int[] bytes = new int[14];
        /** What a forger needs: the inside when it was sealed, and the digest key before that. */
        int[] inside;
        int digest;
    }

    private static final class Hop {
        int relay;
        int[] keys = new int[4];
    }

    private static final class Client {
        int state = 0, waited = -1, exponent;
        List<Hop> hops = new ArrayList<>();
        int[] streamState = new int[4], streamHop = new int[4], window = new int[4];
        int[] data = {};
    }

    private static final class AtRelay {
        int before, behind = -1, waited = -1;
        int[] keys = new int[4];
        int[] count = {-1, -1, -1, -1};
    }

    final List<C> row = new ArrayList<>();
    private final Client[] clients = {new Client(), new Client(), new Client(), new Client()};
    private final AtRelay[][] relays = new AtRelay[5][4];
    private final int[] secrets = {0, 1000, 2000, 3000, 4000};
    private final int[] answered = new int[5];
    private int came, lost, strays;

    private static void index(boolean good) {
        if (!good) {
            throw new IndexOutOfBoundsException();
        }
    }

    private static void argument(boolean good) {
        if (!good) {
            throw new IllegalArgumentException();
        }
    }

    private static void state(boolean good) {
        if (!good) {
            throw new IllegalStateException();
        }
    }

    private static boolean in(int value, int low, int high) {
        return low <= value && value <= high;
    }

    int secret(int relay, int b) {
        index(in(relay, 1, 4));
        argument(in(b, 1, 65519));
        for (AtRelay each : relays[relay]) {
            state(each == null);
        }
        secrets[relay] = b;
        return Inside.raise(17, b);
    }

    int create(int circuit, int relay, int x) {
        index(in(circuit, 0, 3) && in(relay, 1, 4));
        argument(in(x, 1, 65519));
        Client old = clients[circuit];
        state(old.state == 0 || old.state == 3);
        Client c = clients[circuit] = new Client();
        c.state = 1;
        c.waited = relay;
        c.exponent = x;
        post(0, relay, circuit, 1, pairs(Inside.raise(17, x), 0), 0);
        return row.size();
    }

    int extend(int circuit, int relay, int x) {
        index(in(circuit, 0, 3) && in(relay, 1, 4));
        argument(in(x, 1, 65519));
        Client c = clients[circuit];
        for (Hop each : c.hops) {
            argument(each.relay != relay);
        }
        state(c.state == 2 && c.hops.size() < 3);
        int publicX = Inside.raise(17, x);
        order(circuit, c.hops.size() - 1, 1, 0, 3, relay, publicX >> 8, publicX & 255);
        c.state = 1;
        c.waited = relay;
        c.exponent = x;
        return row.size();
    }

    void begin(int circuit, int stream, int hop) {
        index(in(circuit, 0, 3) && in(stream, 1, 3));
        Client c = clients[circuit];
        state(c.state == 2 && in(hop, 0, c.hops.size() - 1) && c.streamState[stream] == 0);
        c.streamState[stream] = 1;
        c.streamHop[stream] = hop;
        order(circuit, hop, 3, stream, 0);
    }

    int send(int circuit, int stream, int n, int v) {
        index(in(circuit, 0, 3) && in(stream, 1, 3));
        argument(in(n, 0, 7) && in(v, 0, 255));
        Client c = clients[circuit];
        state(c.streamState[stream] == 2 && c.window[stream] != 0);
        int[] data = new int[n];
        for (int i = 0; i < n; i++) {
            data[i] = (v + i) % 256;
        }
        order(circuit, c.streamHop[stream], 5, stream, n, data);
        c.window[stream] -= 1;
        return c.window[stream];
    }

    int end(int circuit, int stream) {
        index(in(circuit, 0, 3) && in(stream, 1, 3));
        Client c = clients[circuit];
        int had = c.streamState[stream];
        state(had != 0);
        order(circuit, c.streamHop[stream], 6, stream, 0);
        drop(c, stream);
        return had;
    }

    int truncate(int circuit, int hop) {
        index(in(circuit, 0, 3));
        Client c = clients[circuit];
        state(in(c.state, 1, 2) && in(hop, 0, c.hops.size() - 1));
        order(circuit, hop, 8, 0, 0);
        return c.hops.size();
    }

    void close(int circuit) {
        index(in(circuit, 0, 3));
        state(in(clients[circuit].state, 1, 2));
        shut(circuit);
    }

    int deliver(int n) {
        argument(in(n, 1, 100));
        int delivered = 0;
        for (; delivered < n && !row.isEmpty(); delivered++) {
            C cell = row.remove(0);
            came++;
            boolean fits = cell.to == 0 ? atClient(cell) : atRelay(cell);
            strays += fits ? 0 : 1;
        }
        return delivered;
    }

    int damage(int i, int k, int mask) {
        index(in(i, 0, row.size() - 1) && in(k, 0, 13));
        argument(in(mask, 0, 255));
        int was = row.get(i).bytes[k];
        row.get(i).bytes[k] = was ^ mask;
        return was;
    }

    int lose(int i) {
        index(in(i, 0, row.size() - 1));
        lost++;
        return row.remove(i).command;
    }

    int cell(int i, int what) {
        index(in(i, 0, row.size() - 1) && in(what, 0, 18));
        C c = row.get(i);
        int[] head = {c.from, c.to, c.circuit, c.command};
        return what < 4 ? head[what] : what == 18 ? c.distance : c.bytes[what - 4];
    }

    int circuit(int circuit, int what) {
        index(in(circuit, 0, 3) && in(what, 0, 11));
        Client c = clients[circuit];
        if (what == 0) {
            return c.state;
        }
        if (what == 1) {
            return c.hops.size();
        }
        if (what < 5) {
            return what - 2 < c.hops.size() ? c.hops.get(what - 2).relay : -1;
        }
        if (what == 5) {
            return c.state == 1 ? c.waited : -1;
        }
        return what < 9 ? c.streamState[what - 5] : c.streamState[what - 8] == 2 ? c.window[what - 8] : 0;
    }

    int key(int circuit, int hop, int k) {
        index(in(circuit, 0, 3) && in(hop, 0, clients[circuit].hops.size() - 1) && in(k, 0, 3));
        return clients[circuit].hops.get(hop).keys[k];
    }

    int relay(int relay, int circuit, int what) {
        index(in(relay, 1, 4) && in(circuit, 0, 3) && in(what, 0, 10));
        AtRelay r = relays[relay][circuit];
        if (r == null) {
            return in(what, 1, 3) ? -1 : 0;
        }
        int[] head = {1, r.before, r.behind, r.waited};
        return what < 4 ? head[what] : what < 7 ? (r.count[what - 3] >= 0 ? 1 : 0) : r.keys[what - 7];
    }

    int data(int circuit, int i) {
        index(in(circuit, 0, 3));
        int[] data = clients[circuit].data;
        return in(i, 0, data.length - 1) ? data[i] : -1;
    }

    int count(int what) {
        index(in(what, 0, 4));
        int ready = (int) Arrays.stream(clients).filter(c -> c.state == 2).count();
        return new int[] {row.size(), came, lost, strays, ready}[what];
    }

    float loss() {
        return came + lost == 0 ? 0f : (float) ((double) lost / (came + lost));
    }

    private C post(int from, int to, int circuit, int command, int[] bytes, int distance) {
        C cell = new C();
        cell.from = from;
        cell.to = to;
        cell.circuit = circuit;
        cell.command = command;
        cell.bytes = bytes;
        cell.distance = distance;
        if (row.size() == 20) {
            lost++;
        } else {
            row.add(cell);
        }
        return cell;
    }

    private static int[] pairs(int first, int second) {
        int[] bytes = new int[14];
        bytes[0] = first >> 8;
        bytes[1] = first & 255;
        bytes[2] = second >> 8;
        bytes[3] = second & 255;
        return bytes;
    }

    private static int pair(int[] bytes, int at) {
        return bytes[at] * 256 + bytes[at + 1];
    }

    private static int[] wrap(int[] keys, int k, int[] bytes) {
        int[] wrapped = Inside.wrapped(keys[k], bytes);
        keys[k] = Inside.keyAfterWrap(keys[k]);
        return wrapped;
    }

    private static int[] seal(int[] keys, int k, int order, int stream, int length, int... data) {
        int[] sealed = Inside.sealed(keys[k], order, stream, length, data);
        keys[k] = Inside.digestAfter(keys[k], sealed);
        return sealed;
    }

    private static boolean known(int[] keys, int k, int[] bytes) {
        int after = Inside.digestAfter(keys[k], bytes);
        boolean known = pair(bytes, 0) == 0 && pair(bytes, 2) == after >>> 16;
        keys[k] = known ? after : keys[k];
        return known;
    }

    private void order(int circuit, int hop, int order, int stream, int length, int... data) {
        List<Hop> hops = clients[circuit].hops;
        int digest = hops.get(hop).keys[2];
        int[] inside = seal(hops.get(hop).keys, 2, order, stream, length, data);
        int[] bytes = inside;
        for (int k = hop; k >= 0; k--) {
            bytes = wrap(hops.get(k).keys, 0, bytes);
        }
        remember(post(0, hops.get(0).relay, circuit, 3, bytes, hop), inside, digest);
    }

    private void back(int relay, int circuit, int order, int stream, int length, int... data) {
        AtRelay r = relays[relay][circuit];
        int digest = r.keys[3];
        int[] inside = seal(r.keys, 3, order, stream, length, data);
        remember(post(relay, r.before, circuit, 3, wrap(r.keys, 1, inside), 0), inside, digest);
    }

    private static void remember(C cell, int[] inside, int digest) {
        cell.inside = inside;
        cell.digest = digest;
    }

    private void shut(int circuit) {
        Client c = clients[circuit];
        post(0, c.hops.isEmpty() ? c.waited : c.hops.get(0).relay, circuit, 4, new int[14], 0);
        closed(c);
    }

    private static void closed(Client c) {
        c.state = 3;
        for (int s = 1; s <= 3; s++) {
            drop(c, s);
        }
    }

    private static void drop(Client c, int stream) {
        c.streamState[stream] = 0;
        c.window[stream] = 0;
    }

    private void tear(int relay, int circuit) {
        AtRelay r = relays[relay][circuit];
        post(relay, r.before, circuit, 4, new int[14], 0);
        destroyNext(relay, circuit, new int[14]);
        relays[relay][circuit] = null;
    }

    private void destroyNext(int relay, int circuit, int[] bytes) {
        AtRelay r = relays[relay][circuit];
        int next = r.behind > 0 ? r.behind : r.waited;
        if (next > 0) {
            post(relay, next, circuit, 4, bytes, 0);
        }
    }

    private boolean atRelay(C cell) {
        AtRelay r = relays[cell.to][cell.circuit];
        if (cell.command == 1) {
            return r == null && answerCreate(cell);
        }
        if (r == null) {
            return false;
        }
        if (cell.command == 2) {
            if (r.waited != cell.from) {
                return false;
            }
            r.behind = cell.from;
            r.waited = -1;
            back(cell.to, cell.circuit, 2, 0, 4, Arrays.copyOf(cell.bytes, 4));
            return true;
        }
        if (cell.command == 4) {
            if (cell.from == r.before) {
                destroyNext(cell.to, cell.circuit, cell.bytes);
            } else if (cell.from == r.behind || cell.from == r.waited) {
                post(cell.to, r.before, cell.circuit, 4, cell.bytes, 0);
            } else {
                return false;
            }
            relays[cell.to][cell.circuit] = null;
            return true;
        }
        if (cell.from == r.before) {
            forward(cell, r);
            return true;
        }
        if (cell.from == r.behind) {
            C on = post(cell.to, r.before, cell.circuit, 3, wrap(r.keys, 1, cell.bytes), cell.distance + 1);
            remember(on, cell.inside, cell.digest);
            return true;
        }
        return false;
    }

    private boolean answerCreate(C cell) {
        int publicX = pair(cell.bytes, 0);
        if (publicX == 0 || publicX > 65520) {
            post(cell.to, cell.from, cell.circuit, 4, new int[14], 0);
            return true;
        }
        int h = Inside.agreed(cell.to, secrets[cell.to], publicX, answered[cell.to]);
        int publicY = Inside.publicY(cell.to, publicX, answered[cell.to]);
        answered[cell.to]++;
        AtRelay r = relays[cell.to][cell.circuit] = new AtRelay();
        r.before = cell.from;
        Arrays.setAll(r.keys, k -> Inside.key(h, k));
        post(cell.to, cell.from, cell.circuit, 2, pairs(publicY, h >>> 16), 0);
        return true;
    }

    private void forward(C cell, AtRelay r) {
        int[] bytes = wrap(r.keys, 0, cell.bytes);
        if (cell.distance == 0 && known(r.keys, 2, bytes)) {
            obey(cell.to, cell.circuit, bytes);
        } else if (cell.distance > 0 && r.behind > 0) {
            C on = post(cell.to, r.behind, cell.circuit, 3, bytes, cell.distance - 1);
            remember(on, cell.inside, cell.digest);
        } else {
            tear(cell.to, cell.circuit);
        }
    }

    private void obey(int relay, int circuit, int[] bytes) {
        AtRelay r = relays[relay][circuit];
        int stream = bytes[5];
        boolean open = in(stream, 1, 3) && r.count[stream] >= 0;
        int next = r.behind > 0 ? r.behind : r.waited;
        switch (bytes[4]) {
            case 1 -> {
                int to = bytes[7];
                if (in(to, 1, 4) && to != relay && to != r.before && next < 0) {
                    post(relay, to, circuit, 1, pairs(pair(bytes, 8), 0), 0);
                    r.waited = to;
                } else {
                    tear(relay, circuit);
                }
            }
            case 3 -> {
                if (in(stream, 1, 3) && !open) {
                    r.count[stream] = 0;
                    back(relay, circuit, 4, stream, 0);
                } else {
                    back(relay, circuit, 6, stream, 0);
                }
            }
            case 5 -> {
                if (!open) {
                    back(relay, circuit, 6, stream, 0);
                    return;
                }
                int[] echo = Arrays.copyOfRange(bytes, 7, 7 + Math.min(7, bytes[6]));
                back(relay, circuit, 5, stream, bytes[6], Arrays.stream(echo).map(b -> 255 - b).toArray());
                if (++r.count[stream] % 2 == 0) {
                    back(relay, circuit, 7, stream, 0);
                }
            }
            case 6 -> {
                if (open) {
                    r.count[stream] = -1;
                }
            }
            case 8 -> {
                destroyNext(relay, circuit, new int[14]);
                r.behind = -1;
                r.waited = -1;
                back(relay, circuit, 9, 0, 0);
            }
            default -> tear(relay, circuit);
        }
    }

    private boolean atClient(C cell) {
        Client c = clients[cell.circuit];
        int first = c.hops.isEmpty() ? c.waited : c.hops.get(0).relay;
        if (!in(c.state, 1, 2) || cell.from != first || cell.command == 1) {
            return false;
        }
        if (cell.command == 4) {
            closed(c);
            return true;
        }
        if (c.hops.isEmpty() != (cell.command == 2)) {
            return false;
        }
        if (cell.command == 2) {
            join(cell.circuit, pair(cell.bytes, 0), pair(cell.bytes, 2));
            return true;
        }
        int[] bytes = cell.bytes;
        int d = cell.distance;
        for (int k = 0; d < c.hops.size() && k <= d; k++) {
            bytes = wrap(c.hops.get(k).keys, 1, bytes);
        }
        if (d < c.hops.size() && known(c.hops.get(d).keys, 3, bytes)) {
            hear(cell.circuit, d, bytes);
        } else {
            shut(cell.circuit);
        }
        return true;
    }

    private void join(int circuit, int publicY, int tag) {
        Client c = clients[circuit];
        int t = Inside.raise(Inside.raise(17, secrets[c.waited]), c.exponent);
        int h = Inside.mix(Inside.mix(1234567, Inside.raise(publicY, c.exponent)), t);
        h = Inside.mix(Inside.mix(Inside.mix(h, Inside.raise(17, c.exponent)), publicY), c.waited);
        if (h >>> 16 != tag) {
            shut(circuit);
            return;
        }
        Hop hop = new Hop();
        hop.relay = c.waited;
        for (int k = 0; k < 4; k++) {
            hop.keys[k] = Inside.key(h, k);
        }
        c.hops.add(hop);
        c.state = 2;
    }

    private void hear(int circuit, int hop, int[] bytes) {
        Client c = clients[circuit];
        int order = bytes[4];
        int s = bytes[5];
        if (order == 2) {
            if (c.state == 1 && hop == c.hops.size() - 1) {
                join(circuit, pair(bytes, 7), pair(bytes, 9));
            } else {
                shut(circuit);
            }
        } else if (order == 9) {
            c.hops.subList(hop + 1, c.hops.size()).clear();
            for (int i = 1; i <= 3; i++) {
                if (c.streamHop[i] > hop) {
                    drop(c, i);
                }
            }
            c.state = 2;
        } else if (!in(order, 4, 7)) {
            shut(circuit);
        } else if (in(s, 1, 3) && c.streamState[s] > 0 && c.streamHop[s] == hop) {
            if (order == 6) {
                drop(c, s);
            } else if (order == 4 && c.streamState[s] == 1) {
                c.streamState[s] = 2;
                c.window[s] = 4;
            } else if (order == 7 && c.streamState[s] == 2) {
                c.window[s] += 2;
            } else if (order == 5 && c.streamState[s] == 2) {
                c.data = Arrays.copyOfRange(bytes, 7, 7 + Math.min(7, bytes[6]));
            }
        }
    }
}
