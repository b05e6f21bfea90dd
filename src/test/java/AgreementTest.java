/** The edges of the agreement and of the arithmetic (terms): the modulus, wrap-arounds, pairs, CREATEs answered. */
public final class AgreementTest {
    private static final int MODULUS = 65521;
    private static final int[] NODES = {1, 2, 3, 4};

    private AgreementTest() {
    }

    public static void main(String[] args) {
        knownNumbers();
        raisedIsMultipliedSoOften();
        highestExponent();
        highestPublicNumber();
        remainderZero();
        remainderHighest();
        remainderWrapsByTheCount();
        answeredIsOfTheRelay();
        strayIsNotAnswered();
        destroyIsNoAnswer();
        lostAnswerCounts();
        tagWithoutSign();
        firstSecrets();
        keyOfTheRelayAsItIsNow();
        publicYOfDamage();
        Check.finish();
    }

    private static void agreed(String what, OnionCells x, int circuit, int node, int secret, int exponent,
            int answered) {
        int h = Inside.agreed(node, secret, Inside.raise(17, exponent), answered);
        Check.is(what + ": READY", x.circuit(circuit, 0), OnionCells.READY);
        for (int k = 0; k < 4; k++) {
            Check.is(what + ": key " + k, x.key(circuit, 0, k), Inside.key(h, k));
            Check.is(what + ": key " + k + " at the relay", x.relay(node, circuit, 7 + k), Inside.key(h, k));
        }
    }

    private static int pair(OnionCells x, int i, int at) {
        return x.cell(i, 4 + at) << 8 | x.cell(i, 5 + at);
    }

    /** "Arithmetic is that of ints (wrapping)": told in numbers, not by other arithmetic. */
    private static void knownNumbers() {
        OnionCells x = new OnionCells();
        x.create(0, 1, 5);
        Check.is("X, higher byte first", x.cell(0, 4), 171);
        x.deliver(2);
        Check.is("key 0", x.key(0, 0, 0), -1218284834);
        Check.is("key 3", x.key(0, 0, 3), -1345145093);
    }

    /** "Numbers are modulo 65521; to RAISE one to e is to multiply it so often." */
    private static void raisedIsMultipliedSoOften() {
        OnionCells x = new OnionCells();
        long raised = 1;
        for (int e = 1; e <= 65519; e++) {
            raised = raised * 17 % MODULUS;
            boolean told = e < 20 || e > 65519 - 20 || e % 1000 == 0;
            if (told) {
                Check.is("17 raised to " + e, x.secret(4, e), raised);
            }
        }
    }

    /** "b is not 1 .. 65519", "x is not 1 .. 65519": the highest one is one short of coming back to 1. */
    private static void highestExponent() {
        OnionCells x = new OnionCells();
        Check.is("17 times 17 raised to 65519", 17 * x.secret(2, 65519) % MODULUS, 1);
        x.create(0, 2, 65519);
        Check.is("17 times X", 17 * pair(x, 0, 0) % MODULUS, 1);
        x.deliver(2);
        agreed("both highest", x, 0, 2, 65519, 65519, 0);
    }

    /** "(X 0, or above 65520: ..)": an X of 65520 is the highest that fits; its square is beyond the ints. */
    private static void highestPublicNumber() {
        OnionCells x = new OnionCells();
        x.create(0, 3, 32760);
        Check.is("X", pair(x, 0, 0), 65520);
        x.deliver(2);
        agreed("X 65520", x, 0, 3, 3000, 32760, 0);
    }

    private static int remainder(int exponent, int node, int answered) {
        return (Inside.raise(17, exponent) * 31 + 977 * node + answered) % 65519;
    }

    private static int exponentWith(int remainder, int node) {
        for (int exponent = 1; exponent <= 65519; exponent++) {
            if (remainder(exponent, node, 0) == remainder) {
                return exponent;
            }
        }
        return 0;
    }

    private static OnionCells answeredOnce(int exponent, int node) {
        OnionCells x = new OnionCells();
        x.create(0, node, exponent);
        x.deliver(1);
        return x;
    }

    /** "y is 1 + the remainder of .. by 65519": 1 at least, and Y is 17 then. */
    private static void remainderZero() {
        for (int node : NODES) {
            int exponent = exponentWith(0, node);
            OnionCells x = answeredOnce(exponent, node);
            Check.is("Y with the lowest y", pair(x, 0, 0), 17);
            x.deliver(1);
            agreed("y is 1", x, 0, node, 1000 * node, exponent, 0);
        }
    }

    /** "y is 1 + the remainder of .. by 65519": 65519 at most. */
    private static void remainderHighest() {
        for (int node : NODES) {
            int exponent = exponentWith(65518, node);
            OnionCells x = answeredOnce(exponent, node);
            Check.is("17 times Y with the highest y", 17 * pair(x, 0, 0) % MODULUS, 1);
            x.deliver(1);
            agreed("y is 65519", x, 0, node, 1000 * node, exponent, 0);
        }
    }

    /** ".. + how many CREATEs it has answered before, by 65519": one more is the lowest y again. */
    private static void remainderWrapsByTheCount() {
        int exponent = exponentWith(65518, 2);
        OnionCells x = answeredOnce(exponent, 2);
        x.deliver(1);
        x.create(1, 2, exponent);
        x.deliver(1);
        Check.is("Y of the second", pair(x, 0, 0), 17);
        x.deliver(1);
        agreed("the second", x, 1, 2, 2000, exponent, 1);
    }

    /** "how many CREATEs it has answered before": by this relay, of any circuit and node, gone ones too. */
    private static void answeredIsOfTheRelay() {
        OnionCells x = Made.through(1, 2);
        x.create(1, 1, 6);
        x.deliver(2);
        agreed("second at relay 1", x, 1, 1, 1000, 6, 1);
        x.create(2, 2, 6);
        x.deliver(2);
        agreed("second at relay 2, the first for relay 1", x, 2, 2, 2000, 6, 1);
        x.create(3, 3, 6);
        x.deliver(2);
        agreed("first at relay 3", x, 3, 3, 3000, 6, 0);
        x.close(1);
        x.deliver(1);
        x.create(1, 1, 6);
        x.deliver(2);
        agreed("third at relay 1, though one is gone", x, 1, 1, 1000, 6, 2);
    }

    /** "how many CREATEs it has answered before": one that was STRAY is none of them. */
    private static void strayIsNotAnswered() {
        OnionCells x = Made.through(1);
        x.close(0);
        x.lose(0);
        x.create(0, 1, 6);
        x.deliver(1);
        Check.is("CREATE is stray", x.count(3), 1);
        x.create(1, 1, 6);
        x.deliver(2);
        agreed("a stray CREATE is not answered", x, 1, 1, 1000, 6, 1);
    }

    /** DESTROY goes back for an X that does not fit; a CREATE is read as answered by CREATED alone. */
    private static void destroyIsNoAnswer() {
        OnionCells x = new OnionCells();
        x.create(0, 4, 6);
        x.damage(0, 0, x.cell(0, 4));
        x.damage(0, 1, x.cell(0, 5));
        x.deliver(2);
        Check.is("closed by the DESTROY that goes back for X 0", x.circuit(0, 0), OnionCells.CLOSED);
        x.create(0, 4, 6);
        x.deliver(2);
        agreed("CREATE after one with X 0", x, 0, 4, 4000, 6, 0);
    }

    /** "how many CREATEs it has answered before": also if the answer did not come. */
    private static void lostAnswerCounts() {
        OnionCells x = new OnionCells();
        x.create(0, 4, 6);
        x.deliver(1);
        x.lose(0);
        x.create(1, 4, 6);
        x.deliver(2);
        agreed("CREATE after one whose answer was lost", x, 1, 4, 4000, 6, 1);
    }

    /** "the TAG is h shifted right by 16 without sign": h below 0 and above. */
    private static void tagWithoutSign() {
        boolean below = false;
        boolean above = false;
        for (int exponent = 1; exponent <= 20; exponent++) {
            OnionCells x = answeredOnce(exponent, 1);
            int h = Inside.agreed(1, 1000, Inside.raise(17, exponent), 0);
            below |= h < 0;
            above |= h > 0;
            Check.is("TAG, higher byte", x.cell(0, 6), h >>> 24);
            Check.is("TAG, lower byte", x.cell(0, 7), h >>> 16 & 255);
            x.deliver(1);
            agreed("h " + h, x, 0, 1, 1000, exponent, 0);
        }
        Check.holds("h was below 0 and above", below && above);
    }

    /** "A relay has a SECRET b (1000 * its node at first)". */
    private static void firstSecrets() {
        for (int node : NODES) {
            OnionCells x = answeredOnce(44, node);
            x.deliver(1);
            agreed("first secret of " + node, x, 0, node, 1000 * node, 44, 0);
            OnionCells y = new OnionCells();
            y.secret(node, 1);
            y.create(0, node, 44);
            y.deliver(2);
            agreed("secret 1 of " + node, y, 0, node, 1, 44, 0);
        }
    }

    /** "the agreement is made with Y and the relay's key": another key than the relay had does not fit. */
    private static void keyOfTheRelayAsItIsNow() {
        for (int secret : new int[] {1000, 1001}) {
            OnionCells x = new OnionCells();
            x.create(0, 1, 5);
            x.close(0);
            x.create(0, 1, 5);
            x.lose(2);
            x.deliver(2);
            x.secret(1, secret);
            x.deliver(1);
            Check.is("CREATED, with the secret " + secret + " since", x.circuit(0, 0),
                    secret == 1000 ? OnionCells.READY : OnionCells.CLOSED);
        }
    }

    /** "if the TAG is the second pair, that is its first hop": nothing is said of a Y of 0 or above 65520. */
    private static void publicYOfDamage() {
        for (int publicY : new int[] {0, 1, 65520, 65521, 65535}) {
            OnionCells x = answeredOnce(5, 1);
            int h = 1234567;
            int s = Inside.raise(publicY, 5);
            int t = Inside.raise(Inside.raise(17, 1000), 5);
            for (int part : new int[] {s, t, Inside.raise(17, 5), publicY, 1}) {
                h = Inside.mix(h, part);
            }
            int[] becomes = {publicY >> 8, publicY & 255, h >>> 24, h >>> 16 & 255};
            for (int k = 0; k < 4; k++) {
                x.damage(0, k, x.cell(0, 4 + k) ^ becomes[k]);
            }
            x.deliver(1);
            Check.is("READY with the Y " + publicY, x.circuit(0, 0), OnionCells.READY);
            Check.is("key 0 with the Y " + publicY, x.key(0, 0, 0), Inside.key(h, 0));
        }
    }
}
