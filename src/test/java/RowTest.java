/** deliver, damage, lose, cell, count and loss: promises 10 to 13, 18 and 19. */
public final class RowTest {
    private RowTest() {
    }

    public static void main(String[] args) {
        deliverInOrder();
        deliverWhatIsSentMeanwhile();
        deliverOfNone();
        deliverNoMoreThanAsked();
        damageChanges();
        damageOfEveryByte();
        loseTakesOut();
        loseOfFirstAndLast();
        cellTells();
        bytesNotToldAreZero();
        countCounts();
        countOfReadyOnes();
        lossBeforeTheFirst();
        lossIsAPart();
        Check.finish();
    }

    /** "those sent first first"; "The first n cells come, one by one". */
    private static void deliverInOrder() {
        OnionCells x = new OnionCells();
        x.create(0, 1, 3);
        x.create(1, 2, 3);
        x.create(2, 3, 3);
        Check.is("deliver(1)", x.deliver(1), 1);
        Check.is("the first came", x.relay(1, 0, 0), 1);
        Check.is("the second did not", x.relay(2, 1, 0), 0);
        Check.is("first now", x.cell(0, 2), 1);
        Check.is("then", x.cell(1, 2), 2);
        Check.is("its answer is the last", x.cell(2, 3), 2);
        Check.is("deliver(2)", x.deliver(2), 2);
        Check.is("three answers", x.count(0), 3);
    }

    /** "(those that are sent by that may be among them): how many came, fewer if there are no more". */
    private static void deliverWhatIsSentMeanwhile() {
        OnionCells x = new OnionCells();
        x.create(0, 1, 3);
        Check.is("CREATE and CREATED", x.deliver(100), 2);
        Check.is("READY", x.circuit(0, 0), OnionCells.READY);
        Check.is("none", x.deliver(1), 0);
        Check.is("two came", x.count(1), 2);
    }

    /** "how many came, fewer if there are no more": none at all. */
    private static void deliverOfNone() {
        OnionCells x = new OnionCells();
        Check.is("deliver(1) of none", x.deliver(1), 0);
        Check.is("deliver(100) of none", x.deliver(100), 0);
        Check.is("none came", x.count(1), 0);
        x.create(0, 1, 3);
        x.lose(0);
        Check.is("deliver(100) of what is lost", x.deliver(100), 0);
        Check.is("none came yet", x.count(1), 0);
    }

    private static OnionCells threeHopsAndStreams() {
        OnionCells x = new OnionCells();
        for (int circuit = 0; circuit < 2; circuit++) {
            Made.lay(x, circuit, 1, 2, 3);
            for (int stream = 1; stream <= 3; stream++) {
                x.begin(circuit, stream, 2);
            }
            x.deliver(100);
        }
        return x;
    }

    /** "The first n cells come": 100 at once, though there are more. */
    private static void deliverNoMoreThanAsked() {
        OnionCells x = threeHopsAndStreams();
        int came = x.count(1);
        while (x.count(0) < 20) {
            int sent = x.count(0);
            x.send(sent / 12, 1 + sent / 4 % 3, 1, sent);
        }
        for (int n : new int[] {1, 2, 19}) {
            Check.is("deliver(" + n + ")", x.deliver(n), n);
        }
        Check.is("deliver(100)", x.deliver(100), 100);
        Check.is("came", x.count(1), came + 122);
        Check.holds("more are on their way", x.count(0) > 0);
        int rest = x.deliver(100);
        Check.holds("fewer than 100 are left", rest > 0 && rest < 100);
        Check.is("none is on its way", x.count(0), 0);
        Check.is("all came", x.count(1), came + 122 + rest);
    }

    /** "Byte k of cell i (0 the first) becomes that xor mask: what it was." */
    private static void damageChanges() {
        OnionCells x = new OnionCells();
        x.create(0, 1, 1);
        x.create(1, 1, 1);
        Check.is("damage(1, 1, 255)", x.damage(1, 1, 255), 17);
        Check.is("what it is now", x.cell(1, 5), 238);
        Check.is("the other cell", x.cell(0, 5), 17);
        Check.is("damage(1, 13, 3)", x.damage(1, 13, 3), 0);
        Check.is("the last byte", x.cell(1, 17), 3);
        Check.is("damage(1, 1, 0)", x.damage(1, 1, 0), 238);
        Check.is("damage(1, 1, 255) again", x.damage(1, 1, 255), 238);
        Check.is("as it was", x.cell(1, 5), 17);
    }

    /** Bytes 0 and 13, masks 0 and 255, cells 0 and 19 are the outermost. */
    private static void damageOfEveryByte() {
        OnionCells x = new OnionCells();
        Made.fill(x, 20);
        for (int i : new int[] {0, 19}) {
            for (int k = 0; k < 14; k++) {
                int was = x.cell(i, 4 + k);
                Check.is("damage by 0", x.damage(i, k, 0), was);
                Check.is("damage by 255", x.damage(i, k, 255), was);
                Check.is("what it is now", x.cell(i, 4 + k), 255 - was);
            }
            for (int what : new int[] {0, 1, 2, 3, 18}) {
                Check.is("cell(" + i + ", " + what + ") is not touched", x.cell(i, what),
                        new int[] {0, 4, 3, i == 0 ? 1 : 4, 0}[what == 18 ? 4 : what]);
            }
        }
        Check.is("the second is not touched", x.cell(1, 4), 0);
    }

    /** "Cell i goes out of the row (those behind it have a number less); it is lost (counted): its command." */
    private static void loseTakesOut() {
        OnionCells x = new OnionCells();
        x.create(0, 1, 3);
        x.create(1, 2, 3);
        x.close(1);
        x.create(2, 3, 3);
        Check.is("lose(2)", x.lose(2), 4);
        Check.is("lose(1)", x.lose(1), 1);
        Check.is("two are left", x.count(0), 2);
        Check.is("the first", x.cell(0, 2), 0);
        Check.is("the one behind has a number less", x.cell(1, 2), 2);
        Check.is("two are lost", x.count(2), 2);
        Check.is("none came", x.count(1), 0);
        x.create(1, 4, 3);
        Check.is("a new one is the last", x.cell(2, 1), 4);
        Check.is("lose(2) of it", x.lose(2), 1);
        x.deliver(4);
        Check.is("the others came", x.count(4), 2);
    }

    /** "those behind it have a number less": none is behind the last, all are behind the first. */
    private static void loseOfFirstAndLast() {
        OnionCells x = new OnionCells();
        for (int circuit = 0; circuit < 4; circuit++) {
            x.create(circuit, 1 + circuit, 3);
        }
        Check.is("lose of the last", x.lose(3), 1);
        Check.is("the one before it is the last", x.cell(2, 2), 2);
        Check.is("lose of the first", x.lose(0), 1);
        Check.is("the next one is the first", x.cell(0, 2), 1);
        Check.is("the last has a number less", x.cell(1, 2), 2);
        Check.is("on their way", x.count(0), 2);
        x.lose(1);
        x.lose(0);
        Check.is("none is on its way", x.count(0), 0);
        Check.is("four are lost", x.count(2), 4);
    }

    /** Promise 13: "0 its sender, 1 its receiver, 2 its circuit, 3 its command, 4 + k its byte k, 18 its distance." */
    private static void cellTells() {
        OnionCells x = new OnionCells();
        Made.lay(x, 3, 4, 1, 2);
        x.truncate(3, 2);
        x.deliver(1);
        int[] due = {4, 1, 3, 3};
        for (int what = 0; what < 4; what++) {
            Check.is("cell(0, " + what + ")", x.cell(0, what), due[what]);
        }
        Check.is("its distance", x.cell(0, 18), 1);
        for (int k = 0; k < 14; k++) {
            int was = x.cell(0, 4 + k);
            Check.is("damage(0, " + k + ", 0)", x.damage(0, k, 0), was);
        }
        x.damage(0, 0, x.cell(0, 4) ^ 77);
        x.damage(0, 13, x.cell(0, 17) ^ 78);
        Check.is("byte 0", x.cell(0, 4), 77);
        Check.is("byte 13", x.cell(0, 17), 78);
    }

    /** "a DISTANCE (0, but for RELAY), and 14 BYTES (..; those not told are 0)", wherever other cells stood before. */
    private static void bytesNotToldAreZero() {
        OnionCells x = Made.through(1, 2, 3);
        while (x.count(0) < 20) {
            x.truncate(0, 2);
        }
        for (int i = 19; i >= 0; i--) {
            Check.is("the distance of RELAY", x.cell(i, 18), 2);
            Check.is("lose(" + i + ")", x.lose(i), 3);
        }
        Made.fill(x, 20);
        for (int i : new int[] {0, 1, 10, 11, 18, 19}) {
            int told = x.cell(i, 3) == 1 ? 2 : 0;
            Check.is("distance", x.cell(i, 18), 0);
            for (int k = told; k < 14; k++) {
                Check.is("byte " + k + " of cell " + i, x.cell(i, 4 + k), 0);
            }
        }
        x.deliver(1);
        Check.is("CREATED", x.cell(19, 3), 2);
        for (int k = 4; k < 14; k++) {
            Check.is("byte " + k + " of CREATED", x.cell(19, 4 + k), 0);
        }
        Check.is("distance of CREATED", x.cell(19, 18), 0);
    }

    /** "0 cells on their way, 1 that came since the beginning, 2 that were lost, 3 that were STRAY, 4 .. READY." */
    private static void countCounts() {
        OnionCells x = Made.through(1);
        Made.lay(x, 1, 2);
        x.create(2, 3, 5);
        Check.is("on their way", x.count(0), 1);
        Check.is("came", x.count(1), 4);
        Check.is("lost", x.count(2), 0);
        Check.is("stray", x.count(3), 0);
        Check.is("READY", x.count(4), 2);
        x.extend(0, 2, 5);
        Check.is("READY but for the one BUILDING", x.count(4), 1);
        x.close(2);
        x.lose(1);
        x.deliver(100);
        x.close(1);
        x.deliver(1);
        x.create(1, 1, 5);
        x.lose(0);
        x.close(1);
        x.deliver(1);
        Check.is("DESTROY at a relay without the circuit is stray", x.count(3), 2);
        Check.is("lost by then", x.count(2), 2);
        Check.index("count(5)", () -> x.count(5));
        Check.index("count(-1)", () -> x.count(-1));
    }

    /** "4 how many circuits are READY": none to all four. */
    private static void countOfReadyOnes() {
        OnionCells x = new OnionCells();
        for (int circuit = 0; circuit < 4; circuit++) {
            Check.is("READY", x.count(4), circuit);
            x.create(circuit, 1, 5);
            Check.is("READY but for the one BUILDING", x.count(4), circuit);
            x.deliver(2);
        }
        Check.is("all are READY", x.count(4), 4);
        x.extend(2, 3, 5);
        Check.is("one is BUILDING", x.count(4), 3);
        x.close(0);
        Check.is("one is CLOSED", x.count(4), 2);
    }

    /** "0f before the first." */
    private static void lossBeforeTheFirst() {
        OnionCells x = new OnionCells();
        Check.holds("0f of a new one", x.loss() == 0f && 1f / x.loss() > 0f);
        x.create(0, 1, 3);
        Check.holds("0f while the first is on its way", x.loss() == 0f);
        x.lose(0);
        Check.holds("1f when the first is lost", x.loss() == 1f);
        OnionCells y = new OnionCells();
        y.create(0, 1, 3);
        y.deliver(1);
        Check.holds("0f when the first came", y.loss() == 0f);
    }

    /** "Of the cells that came (STRAY ones, too) or were lost (by lose, or without room) .. the part that was lost". */
    private static void lossIsAPart() {
        OnionCells x = new OnionCells();
        Check.holds("0f at first", x.loss() == 0f);
        x.create(0, 1, 3);
        Check.holds("0f before one came", x.loss() == 0f);
        x.deliver(2);
        Check.holds("0f of two", x.loss() == 0f);
        x.close(0);
        x.lose(0);
        Check.holds("1 of 3", x.loss() == 1f / 3f);
        x.create(0, 1, 3);
        x.deliver(1);
        Check.is("the relay has it still: stray", x.count(3), 1);
        Check.holds("1 of 4, a stray one among them", x.loss() == 0.25f);
        OnionCells y = Made.through(1);
        Made.fill(y, 20);
        y.begin(0, 1, 0);
        Check.holds("1 of 3, for want of room", y.loss() == 1f / 3f);
        y.lose(4);
        Check.holds("2 of 4, by both", y.loss() == 0.5f);
    }
}
