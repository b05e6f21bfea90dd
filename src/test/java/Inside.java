import java.math.BigInteger;

/** The arithmetic of the document's terms, written apart from the program's. */
final class Inside {
    static final int EXTEND = 1, EXTENDED = 2, BEGIN = 3, CONNECTED = 4, DATA = 5;
    static final int END = 6, WINDOW = 7, TRUNCATE = 8, TRUNCATED = 9;

    private Inside() {
    }

    static int raise(int number, int exponent) {
        return BigInteger.valueOf(number).modPow(BigInteger.valueOf(exponent), BigInteger.valueOf(65521)).intValue();
    }

    static int mix(int h, int x) {
        int product = (h ^ x) * 16777619;
        return product ^ product >>> 15;
    }

    /** h of the agreement, as the relay comes to it. */
    static int agreed(int node, int secret, int publicX, int answered) {
        int y = 1 + (publicX * 31 + 977 * node + answered) % 65519;
        int h = 1234567;
        for (int part : new int[] {raise(publicX, y), raise(publicX, secret), publicX, raise(17, y), node}) {
            h = mix(h, part);
        }
        return h;
    }

    static int publicY(int node, int publicX, int answered) {
        return raise(17, 1 + (publicX * 31 + 977 * node + answered) % 65519);
    }

    static int key(int h, int k) {
        int key = h;
        for (int i = 1; i <= k + 1; i++) {
            key = mix(key, i);
        }
        return key;
    }

    static int fed(int key, int[] bytes) {
        int running = key;
        for (int each : bytes) {
            running = mix(running, each);
        }
        return running;
    }

    /** The 14 bytes of an order, sealed with a digest key that is then fed(key, bytes with the check 0). */
    static int[] sealed(int key, int order, int stream, int length, int... data) {
        int[] bytes = new int[14];
        bytes[4] = order;
        bytes[5] = stream;
        bytes[6] = length;
        System.arraycopy(data, 0, bytes, 7, data.length);
        int check = fed(key, bytes) >>> 16;
        bytes[2] = check >> 8;
        bytes[3] = check & 255;
        return bytes;
    }

    /** A byte becomes another, and the check fits again. */
    static int[] resealed(int key, int[] sealed, int at, int value) {
        int[] bytes = sealed.clone();
        bytes[at] = value;
        int check = digestAfter(key, bytes) >>> 16;
        bytes[2] = check >> 8;
        bytes[3] = check & 255;
        return bytes;
    }

    static int digestAfter(int key, int[] sealed) {
        int[] unchecked = sealed.clone();
        unchecked[2] = 0;
        unchecked[3] = 0;
        return fed(key, unchecked);
    }

    static int keyAfterWrap(int key) {
        int running = key;
        for (int i = 0; i < 14; i++) {
            running = running * 1664525 + 1013904223;
        }
        return running;
    }

    static int[] wrapped(int key, int[] bytes) {
        int[] result = bytes.clone();
        int running = key;
        for (int i = 0; i < 14; i++) {
            running = running * 1664525 + 1013904223;
            result[i] ^= running >>> 24;
        }
        return result;
    }

    /** By damage alone: the inside of cell i was the one and is the other then, whatever it is wrapped in. */
    static void swap(OnionCells x, int i, int[] was, int[] becomes) {
        for (int k = 0; k < 14; k++) {
            if (was[k] != becomes[k]) {
                x.damage(i, k, was[k] ^ becomes[k]);
            }
        }
    }
}
