/** Each cell that is STRAY: it is counted, and nothing else happens (terms, promises 10 and 18). */
public final class StrayTest {
    private static final int CREATE = 1, CREATED = 2, RELAY = 3, DESTROY = 4;

    private StrayTest() {
    }

    public static void main(String[] args) {
        createAtARelayThatHasTheCircuit();
        createFromAnotherNode();
        createdOfOneClosed();
        createdOfOneReady();
        createdOfOneBuildingWithAHop();
        createdFromTheOneWaitedForBehindAHop();
        createdFromAnotherRelay();
        createdAtARelayWithoutTheCircuit();
        createdAtARelayThatWaitsForNone();
        createdAtARelayThatWaitsForAnother();
        createdFromTheNodeBehind();
        relayAtARelayWithoutTheCircuit();
        relayFromANodeThatIsBehindNoMore();
        relayFromTheOneWaitedFor();
        relayFromTheClientThatIsNotBefore();
        relayOfOneClosed();
        relayWithoutAHop();
        relayFromAnotherThanTheFirstHop();
        destroyOfOneClosed();
        destroyFromAnotherThanTheOneWaitedFor();
        destroyFromAnotherThanTheFirstHop();
        destroyAtARelayWithoutTheCircuit();
        destroyFromAnotherNode();
        destroyFromANodeThatIsBehindNoMore();
        Check.finish();
    }

    private static OnionCells first(OnionCells x, int from, int to, int command) {
        Check.is("its sender", x.cell(0, 0), from);
        Check.is("its receiver", x.cell(0, 1), to);
        Check.is("its command", x.cell(0, 3), command);
        return x;
    }

    private static void loseLast(OnionCells x) {
        x.lose(x.count(0) - 1);
    }

    /** The client closes circuit 0, and its relays never hear of it. */
    private static void forget(OnionCells x) {
        x.close(0);
        loseLast(x);
    }

    /** The client waits for a relay that does not hear of it; an old CREATED with the same exponent will do. */
    private static void waitForOldCreated(OnionCells x, int relay, int exponent) {
        x.create(0, relay, exponent);
        loseLast(x);
    }

    /** READY through relay 1; the old CREATED of relay 2, with the exponent 5, is the only cell. */
    private static OnionCells withOldCreatedOfAnother() {
        OnionCells x = new OnionCells();
        x.create(0, 1, 6);
        forget(x);
        x.create(0, 2, 5);
        forget(x);
        waitForOldCreated(x, 1, 6);
        x.deliver(3);
        Check.is("READY", x.circuit(0, 0), OnionCells.READY);
        Check.is("through relay 1", x.circuit(0, 2), 1);
        return first(x, 2, 0, CREATED);
    }

    /** BEGIN has gone to relay 1, then the circuit is READY through relay 2: BEGIN is the only cell. */
    private static OnionCells throughAnotherSinceBegin() {
        OnionCells x = withOldCreatedOfAnother();
        x.begin(0, 1, 0);
        forget(x);
        waitForOldCreated(x, 2, 5);
        x.deliver(1);
        Check.is("READY", x.circuit(0, 0), OnionCells.READY);
        Check.is("through relay 2", x.circuit(0, 2), 2);
        return first(x, 0, 1, RELAY);
    }

    /** "CREATE .. At any other node: STRAY": the relay has that circuit. */
    private static void createAtARelayThatHasTheCircuit() {
        Twin.stray("CREATE at a relay that has the circuit", () -> {
            OnionCells x = Made.streaming(1, 0, 1, 2);
            forget(x);
            x.create(0, 1, 6);
            return first(x, 0, 1, CREATE);
        });
    }

    /** The same, from another node than the one before; that its X is 0 makes no difference then. */
    private static void createFromAnotherNode() {
        Twin.stray("CREATE with X 0 at a relay that has the circuit from another node", () -> {
            OnionCells x = Made.through(1, 2);
            forget(x);
            x.create(0, 2, 6);
            x.damage(0, 0, x.cell(0, 4));
            x.damage(0, 1, x.cell(0, 5));
            return first(x, 0, 2, CREATE);
        });
    }

    /** "CREATED, at the client: STRAY, unless the circuit is BUILDING". */
    private static void createdOfOneClosed() {
        Twin.stray("CREATED of a CLOSED one", () -> {
            OnionCells x = new OnionCells();
            x.create(0, 1, 5);
            x.deliver(1);
            x.close(0);
            return first(x, 1, 0, CREATED);
        });
    }

    /** READY by an old CREATED; the one that was asked for last comes only then. */
    private static OnionCells withSecondCreated() {
        OnionCells x = new OnionCells();
        x.create(0, 1, 5);
        x.close(0);
        x.create(0, 1, 5);
        x.deliver(4);
        Check.is("READY", x.circuit(0, 0), OnionCells.READY);
        return first(x, 1, 0, CREATED);
    }

    /** "CREATED, at the client: STRAY, unless the circuit is BUILDING". */
    private static void createdOfOneReady() {
        Twin.stray("CREATED of one READY", StrayTest::withSecondCreated);
    }

    /** "CREATED, at the client: STRAY, unless the circuit .. has no hop". */
    private static void createdOfOneBuildingWithAHop() {
        Twin.stray("CREATED from the first hop of one BUILDING", () -> {
            OnionCells x = withSecondCreated();
            x.extend(0, 2, 5);
            return x;
        });
    }

    /** "CREATED, at the client: STRAY, unless the circuit .. has no hop": the sender is the one waited for. */
    private static void createdFromTheOneWaitedForBehindAHop() {
        Twin.stray("CREATED from the relay waited for, behind a hop", () -> {
            OnionCells x = withOldCreatedOfAnother();
            x.extend(0, 2, 5);
            Check.is("waited for", x.circuit(0, 5), 2);
            return x;
        });
    }

    /** "CREATED, at the client: STRAY, unless .. the sender is the relay that it waits for". */
    private static void createdFromAnotherRelay() {
        Twin.stray("CREATED from another relay than the one waited for", () -> {
            OnionCells x = new OnionCells();
            x.create(0, 1, 5);
            x.deliver(1);
            x.close(0);
            x.create(0, 2, 5);
            return first(x, 1, 0, CREATED);
        });
    }

    /** "CREATED .. At a relay: STRAY, unless it waits for the sender": it has not the circuit. */
    private static void createdAtARelayWithoutTheCircuit() {
        Twin.stray("CREATED at a relay without the circuit", () -> {
            OnionCells x = Made.through(1);
            x.extend(0, 2, 5);
            x.deliver(1);
            x.close(0);
            x.deliver(2);
            Check.is("gone", x.relay(1, 0, 0), 0);
            return first(x, 2, 1, CREATED);
        });
    }

    /** "CREATED .. At a relay: STRAY, unless it waits for the sender": it waits for none any more. */
    private static void createdAtARelayThatWaitsForNone() {
        Twin.stray("CREATED at a relay that waits for none", () -> {
            OnionCells x = Made.through(1);
            x.extend(0, 2, 5);
            x.deliver(1);
            x.truncate(0, 0);
            x.deliver(2);
            return first(x, 2, 1, CREATED);
        });
    }

    /** TRUNCATE to the first hop goes behind what is on its way already, and behind that an EXTEND. */
    private static void cutOffAndExtend(OnionCells x, int relay) {
        x.truncate(0, 0);
        int digest = x.key(0, 0, 2);
        x.truncate(0, 0);
        Inside.swap(x, x.count(0) - 1, Inside.sealed(digest, Inside.TRUNCATE, 0, 0),
                Inside.sealed(digest, Inside.EXTEND, 0, 3, relay, 0, 17));
    }

    /** "CREATED .. At a relay: STRAY, unless it waits for the sender": it waits for another. */
    private static void createdAtARelayThatWaitsForAnother() {
        Twin.stray("CREATED at a relay that waits for another", () -> {
            OnionCells x = Made.through(1);
            x.extend(0, 2, 5);
            cutOffAndExtend(x, 3);
            x.deliver(4);
            Check.is("waits for another", x.relay(1, 0, 3), 3);
            x.lose(0);
            x.lose(0);
            x.lose(0);
            return first(x, 2, 1, CREATED);
        });
    }

    /** "CREATED .. At a relay: STRAY, unless it waits for the sender": that is the node behind already. */
    private static void createdFromTheNodeBehind() {
        Twin.stray("CREATED from the node behind", () -> {
            OnionCells x = Made.through(1);
            x.extend(0, 2, 5);
            cutOffAndExtend(x, 2);
            x.deliver(8);
            Check.is("behind", x.relay(1, 0, 2), 2);
            Check.is("not waited for", x.relay(1, 0, 3), -1);
            return first(x, 2, 1, CREATED);
        });
    }

    /** "RELAY, at a relay: .. Else STRAY": it has not the circuit. */
    private static void relayAtARelayWithoutTheCircuit() {
        Twin.stray("RELAY at a relay without the circuit", () -> {
            OnionCells x = Made.through(1);
            x.begin(0, 1, 0);
            x.begin(0, 2, 0);
            x.damage(0, 13, 1);
            x.deliver(1);
            Check.is("gone", x.relay(1, 0, 0), 0);
            return first(x, 0, 1, RELAY);
        });
    }

    /** "RELAY, at a relay: .. Else STRAY": the node is behind no more. */
    private static void relayFromANodeThatIsBehindNoMore() {
        Twin.stray("RELAY from a node that is behind no more", () -> {
            OnionCells x = Made.through(1, 2);
            x.begin(0, 1, 1);
            x.truncate(0, 0);
            x.deliver(5);
            return first(x, 2, 1, RELAY);
        });
    }

    /** "RELAY, at a relay: .. Else STRAY": the sender is waited for, but not behind. */
    private static void relayFromTheOneWaitedFor() {
        Twin.stray("RELAY from the one waited for", () -> {
            OnionCells x = Made.through(1, 2);
            x.begin(0, 1, 1);
            cutOffAndExtend(x, 2);
            x.deliver(7);
            Check.is("waited for", x.relay(1, 0, 3), 2);
            Check.is("not behind", x.relay(1, 0, 2), -1);
            return first(x, 2, 1, RELAY);
        });
    }

    /** "RELAY, at a relay: from the node before: .. Else STRAY": the client is not before this relay any more. */
    private static void relayFromTheClientThatIsNotBefore() {
        Twin.stray("RELAY from the client, which is not before this relay", () -> {
            OnionCells x = new OnionCells();
            x.create(0, 1, 7);
            forget(x);
            x.create(0, 2, 5);
            x.close(0);
            waitForOldCreated(x, 1, 7);
            x.deliver(4);
            x.extend(0, 2, 9);
            forget(x);
            waitForOldCreated(x, 2, 5);
            x.deliver(2);
            Check.is("READY through relay 2", x.circuit(0, 2), 2);
            x.begin(0, 1, 0);
            x.deliver(1);
            Check.is("which is there for relay 1", x.relay(2, 0, 1), 1);
            return first(x, 0, 2, RELAY);
        });
    }

    /** "RELAY .. At the client: STRAY, unless .. the circuit is BUILDING or READY". */
    private static void relayOfOneClosed() {
        Twin.stray("RELAY of a CLOSED one", () -> {
            OnionCells x = Made.through(1);
            x.begin(0, 1, 0);
            x.deliver(1);
            x.close(0);
            return first(x, 1, 0, RELAY);
        });
    }

    /** "RELAY .. At the client: STRAY, unless it comes from the first hop": there is none, the sender is waited for. */
    private static void relayWithoutAHop() {
        Twin.stray("RELAY without a hop", () -> {
            OnionCells x = Made.through(1);
            x.begin(0, 1, 0);
            x.deliver(1);
            x.close(0);
            x.create(0, 1, 8);
            return first(x, 1, 0, RELAY);
        });
    }

    /** "RELAY .. At the client: STRAY, unless it comes from the first hop". */
    private static void relayFromAnotherThanTheFirstHop() {
        Twin.stray("RELAY from another relay than the first hop", () -> {
            OnionCells x = throughAnotherSinceBegin();
            x.deliver(1);
            return first(x, 1, 0, RELAY);
        });
    }

    /** "DESTROY, at the client: STRAY, unless .. the circuit is BUILDING or READY". */
    private static void destroyOfOneClosed() {
        Twin.stray("DESTROY of a CLOSED one", () -> {
            OnionCells x = Made.through(1);
            x.begin(0, 1, 0);
            x.damage(0, 0, 1);
            x.deliver(1);
            x.close(0);
            return first(x, 1, 0, DESTROY);
        });
    }

    /** "DESTROY, at the client: STRAY, unless it comes from .. (or, without one, the relay waited for)". */
    private static void destroyFromAnotherThanTheOneWaitedFor() {
        Twin.stray("DESTROY from another relay than the one waited for", () -> {
            OnionCells x = Made.through(1);
            x.begin(0, 1, 0);
            x.damage(0, 0, 1);
            x.deliver(1);
            x.close(0);
            x.create(0, 2, 4);
            return first(x, 1, 0, DESTROY);
        });
    }

    /** "DESTROY, at the client: STRAY, unless it comes from the first hop": it comes from the one waited for behind. */
    private static void destroyFromAnotherThanTheFirstHop() {
        Twin.stray("DESTROY from another relay than the first hop", () -> {
            OnionCells x = throughAnotherSinceBegin();
            x.damage(0, 0, 1);
            x.deliver(1);
            x.extend(0, 1, 4);
            Check.is("waited for", x.circuit(0, 5), 1);
            return first(x, 1, 0, DESTROY);
        });
    }

    /** "DESTROY .. At a relay: .. Else STRAY": it has not the circuit. */
    private static void destroyAtARelayWithoutTheCircuit() {
        Twin.stray("DESTROY at a relay without the circuit", () -> {
            OnionCells x = new OnionCells();
            x.create(0, 1, 5);
            x.close(0);
            x.lose(0);
            return first(x, 0, 1, DESTROY);
        });
    }

    /** "DESTROY .. At a relay: from the node before .. Else STRAY": the client is not before this relay. */
    private static void destroyFromAnotherNode() {
        Twin.stray("DESTROY from the client, which is not before this relay", () -> {
            OnionCells x = Made.through(1, 2, 3);
            forget(x);
            x.create(0, 2, 5);
            x.close(0);
            x.lose(0);
            return first(x, 0, 2, DESTROY);
        });
    }

    /** "DESTROY .. At a relay: .. from the node behind or the one waited for .. Else STRAY". */
    private static void destroyFromANodeThatIsBehindNoMore() {
        Twin.stray("DESTROY from a node that is behind no more", () -> {
            OnionCells x = Made.through(1, 2);
            x.begin(0, 1, 1);
            x.truncate(0, 0);
            x.deliver(2);
            x.damage(0, 0, 1);
            x.deliver(3);
            return first(x, 2, 1, DESTROY);
        });
    }
}
