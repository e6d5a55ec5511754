/** RETURN VALUES: the codes, their order, and that a refused call changes nothing. */
final class ReturnEdges extends ClauseGroup {
    ReturnEdges(Check check, Doc doc) {
        super(check, doc);
    }

    @Override
    void all() {
        statesToStartFrom();
        badIsOutOfRangeOrNoSuchConnection();
        stateIsNotPossibleAtPresent();
        fullIsALimitReached();
        theFirstOfSeveralIsReturned();
        aRefusedCallChangesNothing();
        noneOnlyIfNoErrorApplies();
        quotientsAreRoundedDown();
    }

    /** The states in which calls are refused have something that a refused call could spoil. */
    private void statesToStartFrom() {
        clause("RETURN VALUES", "changes nothing (but see load()).");
        ConnectionFamily f = busy();
        for (int what : new int[] {FLIGHTS, QUEUE, ON_WAY, LATE}) {
            due("told(" + what + ") of the busy one is above 0", f.told(what) > 0 ? 1 : 0, 1);
        }
        due("remembered of the busy one", f.told(REMEMBERED), 5);
        due("bytes of the busy one", f.told(BYTES), 2);
        due("fault() of the busy one", f.fault(), 1);
        for (int c = 0; c <= 3; c++) {
            due("flight of " + c + " of the busy one is above 0", f.property(c, FLIGHT) > 0 ? 1 : 0, 1);
        }
        ConnectionFamily g = full();
        due("open ones of the full one", g.told(OPEN), 10);
        due("backlog of the full one", g.property(0, BACKLOG), 9999);
        due("bytes of the full one", g.told(BYTES), 60);
    }

    private void badIsOutOfRangeOrNoSuchConnection() {
        clause("RETURN VALUES", "BAD (-1): an argument is out of range, or there is no such connection;");
        due("BAD", ConnectionFamily.BAD, -1);
        due("out of range", fresh().run(0), -1);
        due("no such connection", fresh().kin(1), -1);
        due("no such number", fresh().kin(10), -1);
    }

    private void stateIsNotPossibleAtPresent() {
        clause("RETURN VALUES", "STATE (-2): the call is not possible at present, as the method says;");
        due("STATE", ConnectionFamily.STATE, -2);
        due("close() of one with a flight", busy().close(1), -2);
        due("setBudget() below the flights", busy().setBudget(1), -2);
        due("undo() of nothing", fresh().undo(), -2);
    }

    private void fullIsALimitReached() {
        clause("RETURN VALUES", "FULL (-3): a limit is reached.");
        due("FULL", ConnectionFamily.FULL, -3);
        due("type()", full().type('1'), -3);
        due("open()", full().open(0, 1), -3);
        due("give()", full().give(0, 1), -3);
        due("ifOpened()", full().ifOpened(0, 1, 0), -3);
    }

    private void theFirstOfSeveralIsReturned() {
        clause("RETURN VALUES", "If several of them apply to a call, the first one in this order is returned.");
        refused("type(31) in a full buffer", ClauseGroup::full, f -> f.type(31), BAD);
        refused("type(127) in a full buffer", ClauseGroup::full, f -> f.type(127), BAD);
        refused("open(10, 1) of an 11th", ClauseGroup::full, f -> f.open(10, 1), BAD);
        refused("open(0, 0) of an 11th", ClauseGroup::full, f -> f.open(0, 0), BAD);
        refused("open(9, 10) of an 11th", ClauseGroup::full, f -> f.open(9, 10), BAD);
        refused("give(0, 501) above 9999", ClauseGroup::full, f -> f.give(0, 501), BAD);
        refused("give(0, 0) at 9999", ClauseGroup::full, f -> f.give(0, 0), BAD);
        refused("setBudget(0) below the flights", ClauseGroup::busy, f -> f.setBudget(0), BAD);
        refused("setBudget(least) below the flights", ClauseGroup::busy, f -> f.setBudget(LEAST), BAD);
        refused("ifOpened(0, 0, 0) of an 11th", ClauseGroup::full, f -> f.ifOpened(0, 0, 0), BAD);
        refused("ifOpened(10, 1, 0) of an 11th", ClauseGroup::full, f -> f.ifOpened(10, 1, 0), BAD);
        refused("ifOpened(0, 1, 10) of an 11th", ClauseGroup::full, f -> f.ifOpened(0, 1, 10), BAD);
    }

    private void aRefusedCallChangesNothing() {
        clause("RETURN VALUES", "A call that returns an error code, or -10 or less, changes nothing");
        refused("close(1) with a flight", ClauseGroup::busy, f -> f.close(1), STATE);
        refused("setBudget(1) below the flights", ClauseGroup::busy, f -> f.setBudget(1), STATE);
        refused("undo() of nothing", ClauseGroup::fresh, f -> f.undo(), STATE);
        refused("type() in a full buffer", ClauseGroup::full, f -> f.type('2'), FULL);
        refused("open() of an 11th", ClauseGroup::full, f -> f.open(9, 9), FULL);
        refused("give() above 9999", ClauseGroup::full, f -> f.give(0, 1), FULL);
        refused("ifOpened() of an 11th", ClauseGroup::full, f -> f.ifOpened(0, 1, NONE), FULL);
        refused("load() of a fault", ClauseGroup::busy, f -> f.load(), -12);
    }

    private void noneOnlyIfNoErrorApplies() {
        clause("RETURN VALUES", "NONE (-9) is not an error code:");
        due("NONE", ConnectionFamily.NONE, -9);
        due("property(0, 0)", fresh().property(0, PARENT), -9);
        clause("RETURN VALUES", "it means that there is no such value, and is returned only if no error code applies.");
        refused("child(1, 5) of a closed one", ClauseGroup::fresh, f -> f.child(1, 5), BAD);
        refused("inFlight(1, 5, 0) of a closed one", ClauseGroup::fresh, f -> f.inFlight(1, 5, 0), BAD);
        refused("inFlight(0, 5, 2)", ClauseGroup::fresh, f -> f.inFlight(0, 5, 2), BAD);
        refused("inFlight(0, 5, -1)", ClauseGroup::fresh, f -> f.inFlight(0, 5, -1), BAD);
        refused("property(1, 0) of a closed one", ClauseGroup::fresh, f -> f.property(1, PARENT), BAD);
        refused("property(1, 12) of a closed one", ClauseGroup::fresh, f -> f.property(1, S), BAD);
        refused("due(1) of a closed one", ClauseGroup::fresh, f -> f.due(1), BAD);
        changesNothing("child(0, 5)", ClauseGroup::busy, f -> f.child(0, 5));
        changesNothing("queued(60)", ClauseGroup::busy, f -> f.queued(60));
    }

    private void quotientsAreRoundedDown() {
        clause("RETURN VALUES", "Quotients of whole numbers are rounded down.");
        ConnectionFamily f = new ConnectionFamily();
        f.open(0, 2);
        due("credit: 32 * 2 / 3", f.property(1, CREDIT), 21);
        due("the rest", f.property(0, CREDIT), 11);
        due("window: 21 / 16", f.property(1, WINDOW), 1);
        ConnectionFamily g = new ConnectionFamily();
        g.give(0, 2);
        g.run(6);
        // two trips of 5: V 10 + 0 - 10 / 4
        due("V: 10 - 10 / 4", g.property(0, V), 8);
        trips(g, 0, 2);
        // V 6, then 6 - 6 / 4
        due("V: 6 - 6 / 4", g.property(0, V), 5);
    }
}
