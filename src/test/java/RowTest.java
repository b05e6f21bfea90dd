/** deliver, damage, lose, cell, count and loss, and the full row: promises 10 to 13, 18 and 19. */
public final class RowTest {
    private RowTest() {
    }

    public static void main(String[] args) {
        deliverInOrder();
        deliverWhatIsSentMeanwhile();
        deliverRefuses();
        damageChanges();
        damageRefuses();
        loseTakesOut();
        loseRefuses();
        cellRefuses();
        countCounts();
        lossIsAPart();
        fullRowLoses();
        fullRowMovesKeys();
        comingMakesRoom();
        Check.finish();
    }

    private static void deliverInOrder() {
        OnionCells x = new OnionCells();
        x.create(0, 1, 3);
        x.create(1, 2, 3);
        x.create(2, 3, 3);
        Check.is("deliver(1)", x.deliver(1), 1);
        Check.is("the first came", x.relay(1, 0, 0), 1);
        Check.is("the second did not", x.relay(2, 1, 0), 0);
        Check.is("first now", x.cell(0, 2), 1);
        Check.is("then", x.cell(1, 2), 2);
        Check.is("its answer is the last", x.cell(2, 3), 2);
        Check.is("deliver(2)", x.deliver(2), 2);
        Check.is("three answers", x.count(0), 3);
    }

    private static void deliverWhatIsSentMeanwhile() {
        OnionCells x = new OnionCells();
        x.create(0, 1, 3);
        Check.is("CREATE and CREATED", x.deliver(100), 2);
        Check.is("READY", x.circuit(0, 0), OnionCells.READY);
        Check.is("none", x.deliver(1), 0);
        Check.is("two came", x.count(1), 2);
    }

    private static void deliverRefuses() {
        OnionCells x = new OnionCells();
        x.create(0, 1, 3);
        Check.argument("deliver(0)", () -> x.deliver(0));
        Check.argument("deliver(-1)", () -> x.deliver(-1));
        Check.argument("deliver(101)", () -> x.deliver(101));
        Check.is("nothing came", x.count(1), 0);
    }

    private static void damageChanges() {
        OnionCells x = new OnionCells();
        x.create(0, 1, 1);
        x.create(1, 1, 1);
        Check.is("damage(1, 1, 255)", x.damage(1, 1, 255), 17);
        Check.is("what it is now", x.cell(1, 5), 238);
        Check.is("the other cell", x.cell(0, 5), 17);
        Check.is("damage(1, 13, 3)", x.damage(1, 13, 3), 0);
        Check.is("the last byte", x.cell(1, 17), 3);
        Check.is("damage(1, 1, 0)", x.damage(1, 1, 0), 238);
        Check.is("damage(1, 1, 255) again", x.damage(1, 1, 255), 238);
        Check.is("as it was", x.cell(1, 5), 17);
    }

    private static void damageRefuses() {
        OnionCells x = new OnionCells();
        Check.index("damage(0, 0, 256) of none", () -> x.damage(0, 0, 256));
        x.create(0, 1, 1);
        Check.index("damage(1, 0, 1)", () -> x.damage(1, 0, 1));
        Check.index("damage(-1, 0, 1)", () -> x.damage(-1, 0, 1));
        Check.index("damage(0, 14, 256)", () -> x.damage(0, 14, 256));
        Check.index("damage(0, -1, 1)", () -> x.damage(0, -1, 1));
        Check.argument("damage(0, 0, 256)", () -> x.damage(0, 0, 256));
        Check.argument("damage(0, 0, -1)", () -> x.damage(0, 0, -1));
        Check.is("undamaged", x.cell(0, 4), 0);
    }

    private static void loseTakesOut() {
        OnionCells x = new OnionCells();
        x.create(0, 1, 3);
        x.create(1, 2, 3);
        x.close(1);
        x.create(2, 3, 3);
        Check.is("lose(2)", x.lose(2), 4);
        Check.is("lose(1)", x.lose(1), 1);
        Check.is("two are left", x.count(0), 2);
        Check.is("the first", x.cell(0, 2), 0);
        Check.is("the one behind has a number less", x.cell(1, 2), 2);
        Check.is("two are lost", x.count(2), 2);
        Check.is("none came", x.count(1), 0);
        x.create(1, 4, 3);
        Check.is("a new one is the last", x.cell(2, 1), 4);
        Check.is("lose(2) of it", x.lose(2), 1);
        x.deliver(4);
        Check.is("the others came", x.count(4), 2);
    }

    private static void loseRefuses() {
        OnionCells x = new OnionCells();
        Check.index("lose(0) of none", () -> x.lose(0));
        x.create(0, 1, 3);
        Check.index("lose(1)", () -> x.lose(1));
        Check.index("lose(-1)", () -> x.lose(-1));
        Check.is("none is lost", x.count(2), 0);
    }

    private static void cellRefuses() {
        OnionCells x = new OnionCells();
        x.create(0, 1, 3);
        Check.index("cell(1, 0)", () -> x.cell(1, 0));
        Check.index("cell(-1, 0)", () -> x.cell(-1, 0));
        Check.index("cell(0, 19)", () -> x.cell(0, 19));
        Check.index("cell(0, -1)", () -> x.cell(0, -1));
    }

    private static void countCounts() {
        OnionCells x = Made.through(1);
        Made.lay(x, 1, 2);
        x.create(2, 3, 5);
        Check.is("on their way", x.count(0), 1);
        Check.is("came", x.count(1), 4);
        Check.is("lost", x.count(2), 0);
        Check.is("stray", x.count(3), 0);
        Check.is("READY", x.count(4), 2);
        x.extend(0, 2, 5);
        Check.is("READY but for the one BUILDING", x.count(4), 1);
        x.close(2);
        x.lose(1);
        x.deliver(100);
        x.close(1);
        x.deliver(1);
        x.create(1, 1, 5);
        x.lose(0);
        x.close(1);
        x.deliver(1);
        Check.is("DESTROY at a relay without the circuit is stray", x.count(3), 2);
        Check.is("lost by then", x.count(2), 2);
        Check.index("count(5)", () -> x.count(5));
        Check.index("count(-1)", () -> x.count(-1));
    }

    private static void lossIsAPart() {
        OnionCells x = new OnionCells();
        Check.holds("0f at first", x.loss() == 0f);
        x.create(0, 1, 3);
        Check.holds("0f before one came", x.loss() == 0f);
        x.deliver(2);
        Check.holds("0f of two", x.loss() == 0f);
        x.close(0);
        x.lose(0);
        Check.holds("1 of 3", x.loss() == 1f / 3f);
        x.create(0, 1, 3);
        x.deliver(1);
        Check.is("the relay has it still: stray", x.count(3), 1);
        Check.holds("1 of 4, a stray one among them", x.loss() == 0.25f);
        OnionCells y = new OnionCells();
        y.create(0, 1, 3);
        y.lose(0);
        Check.holds("all of them", y.loss() == 1f);
    }

    private static void fullRowLoses() {
        OnionCells x = new OnionCells();
        Made.fill(x, 20);
        Check.is("none is lost yet", x.count(2), 0);
        Check.is("create without room", x.create(0, 1, 3), 20);
        Check.is("one is lost", x.count(2), 1);
        Check.is("on their way", x.count(0), 20);
        Check.is("BUILDING all the same", x.circuit(0, 0), OnionCells.BUILDING);
        Check.holds("1 of 1", x.loss() == 1f);
        x.close(0);
        Check.is("DESTROY is lost, too", x.count(2), 2);
        for (int i = 0; i < 20; i++) {
            Check.is("cell " + i, x.cell(i, 2), 3);
        }
    }

    private static void fullRowMovesKeys() {
        OnionCells x = Made.streaming(1, 0, 1);
        Made.fill(x, 20);
        int digest = x.key(0, 0, 2);
        int outer = x.key(0, 0, 0);
        Check.is("send without room", x.send(0, 1, 2, 5), 3);
        int[] inside = Inside.sealed(digest, Inside.DATA, 1, 2, 5, 6);
        Check.is("digest key", x.key(0, 0, 2), Inside.digestAfter(digest, inside));
        Check.is("outer key", x.key(0, 0, 0), Inside.keyAfterWrap(outer));
        Check.is("extend without room", x.extend(0, 2, 5), 20);
        Check.is("BUILDING", x.circuit(0, 0), OnionCells.BUILDING);
        Check.is("two are lost", x.count(2), 2);
    }

    private static void comingMakesRoom() {
        OnionCells x = Made.streaming(1, 0, 1);
        x.send(0, 1, 1, 1);
        x.send(0, 1, 1, 2);
        Made.fill(x, 20);
        x.deliver(1);
        Check.is("the answer takes the room of what came", x.count(0), 20);
        Check.is("none is lost", x.count(2), 0);
        x.deliver(1);
        Check.is("DATA has room, WINDOW has not", x.count(2), 1);
        Check.is("full", x.count(0), 20);
        Check.is("the last is from relay 1", x.cell(19, 0), 1);
    }
}
