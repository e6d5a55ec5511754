/** Promises 13 to 22: the range of each argument, what is told at its edges, and what is refused beyond them. */
final class TellingEdges extends ClauseGroup {
    TellingEdges(Check check, Doc doc) {
        super(check, doc);
    }

    private static final int[] NOT_OPEN = {LEAST, -9, -1, 4, 9, 10, MOST};

    @Override
    void all() {
        propertyOfAll();
        propertyWithoutAValue();
        countOfAll();
        countSinceItWasOpened();
        toldOfAll();
        childInItsPlace();
        kinAsABitMask();
        distanceAtItsEnds();
        inFlightInItsPlace();
        queuedInItsPlace();
        queuedOfAClosedOne();
        dueIsAtLeastTheClock();
        dueWithoutAFlight();
        fairnessOfLimits();
        fairnessOfNothing();
        fairnessIsRoundedOnce();
    }

    private void propertyOfAll() {
        clause("Promise 13", "Returns the property; BAD if c is not open or what is out of range.");
        ConnectionFamily f = busy();
        for (int c = 0; c <= 3; c++) {
            for (int what = 1; what <= 16; what++) {
                due("property(" + c + ", " + what + ") is told", f.property(c, what) == BAD ? 1 : 0, 0);
            }
        }
        for (int what : new int[] {LEAST, -9, -1, 17, MOST}) {
            refused("property(0, " + what + ")", ClauseGroup::busy, g -> g.property(0, what), BAD);
            refused("property(9, " + what + ")", ClauseGroup::busy, g -> g.property(9, what), BAD);
        }
        for (int c : NOT_OPEN) {
            refused("property(" + c + ", 0)", ClauseGroup::busy, g -> g.property(c, 0), BAD);
            refused("property(" + c + ", 16)", ClauseGroup::busy, g -> g.property(c, 16), BAD);
        }
        ConnectionFamily g = new ConnectionFamily();
        g.give(0, 3);
        g.run(1);
        due("property(0, 15) is the next number", g.property(0, 15), 2);
        due("property(0, 16) is the mark", g.property(0, 16), 0);
    }

    private void propertyWithoutAValue() {
        clause("Promise 13", "0 its parent (NONE for the head)");
        due("property(0, 0)", busy().property(0, 0), NONE);
        due("property(1, 0)", busy().property(1, 0), 0);
        clause("Promise 13", "(12 and 13: NONE if there are no estimates)");
        ConnectionFamily f = new ConnectionFamily();
        f.open(0, 1);
        for (int c = 0; c <= 1; c++) {
            due("property(" + c + ", 12)", f.property(c, 12), NONE);
            due("property(" + c + ", 13)", f.property(c, 13), NONE);
            due("property(" + c + ", 14)", f.property(c, 14), 0);
            due("property(" + c + ", 11)", f.property(c, 11), 10);
        }
        trips(f, 1, 1);
        due("property(0, 12)", f.property(0, 12), NONE);
        due("property(1, 12)", f.property(1, 12), 40);
        due("property(1, 13)", f.property(1, 13), 10);
    }

    private void countOfAll() {
        clause("Promise 14", "Returns the count; BAD if c is not open or what is out of range.");
        ConnectionFamily f = busy();
        for (int c = 0; c <= 3; c++) {
            for (int what = 0; what <= 5; what++) {
                due("count(" + c + ", " + what + ") is told", f.count(c, what) >= 0 ? 1 : 0, 1);
            }
        }
        for (int what : new int[] {LEAST, -1, 6, MOST}) {
            refused("count(0, " + what + ")", ClauseGroup::busy, g -> g.count(0, what), BAD);
        }
        for (int c : NOT_OPEN) {
            refused("count(" + c + ", 0)", ClauseGroup::busy, g -> g.count(c, 0), BAD);
            refused("count(" + c + ", 5)", ClauseGroup::busy, g -> g.count(c, 5), BAD);
        }
    }

    private void countSinceItWasOpened() {
        clause("Promise 14", "0 packets sent, 1 packets acknowledged, 2 packets found lost, 3 gap losses, 4 timeout losses");
        ConnectionFamily f = new ConnectionFamily();
        f.open(0, 1);
        f.setLink(0, 1);
        f.give(0, 1);
        f.give(1, 1);
        f.run(17);
        int[] want = {2, 1, 1, 0, 1, 1};
        for (int what = 0; what <= 5; what++) {
            due("count(1, " + what + ")", f.count(1, what), want[what]);
        }
        f.close(1);
        f.open(0, 1);
        for (int what = 0; what <= 5; what++) {
            due("count(1, " + what + ") of a new one", f.count(1, what), 0);
        }
        due("the count of the parent stays", f.count(0, ACKNOWLEDGED), 1);
    }

    private void toldOfAll() {
        clause("Promise 15", "Returns the number; BAD if what is out of range.");
        ConnectionFamily f = busy();
        for (int what = 0; what <= 12; what++) {
            due("told(" + what + ") is told", f.told(what) >= 0 ? 1 : 0, 1);
        }
        for (int what : new int[] {LEAST, -9, -1, 13, MOST}) {
            refused("told(" + what + ")", ClauseGroup::busy, g -> g.told(what), BAD);
        }
        due("told(0)", f.told(0), 27);
        due("told(12)", f.told(12), 2);
    }

    private void childInItsPlace() {
        clause("Promise 16", "the place of the child in the ascending order of their numbers, from 0");
        ConnectionFamily f = ofTen();
        for (int i = 0; i <= 8; i++) {
            due("child(0, " + i + ")", f.child(0, i), i + 1);
        }
        clause("Promise 16", "NONE if there are not so many;");
        due("child(0, 9)", f.child(0, 9), NONE);
        due("child(0, most)", f.child(0, MOST), NONE);
        due("child(9, 0)", f.child(9, 0), NONE);
        due("child(0, 0) of a head alone", fresh().child(0, 0), NONE);
        f.close(1);
        f.open(9, 1);
        due("child(9, 0) of a smaller number", f.child(9, 0), 1);
        due("child(0, 0)", f.child(0, 0), 2);
        due("child(0, 8)", f.child(0, 8), NONE);
        clause("Promise 16", "BAD if c is not open or i is negative.");
        for (int i : new int[] {LEAST, -9, -1}) {
            refused("child(0, " + i + ")", ClauseGroup::busy, g -> g.child(0, i), BAD);
        }
        for (int c : NOT_OPEN) {
            refused("child(" + c + ", 0)", ClauseGroup::busy, g -> g.child(c, 0), BAD);
        }
    }

    private void kinAsABitMask() {
        clause("Promise 17", "Returns the set of its kin, as a bit mask (bit k for connection k); BAD if c is not open.");
        ConnectionFamily f = new ConnectionFamily();
        Texts.load(f, "1(1111(1)111(1))");
        // 0 has 1, 2, 3, 4, 6, 7 and 8; 4 has 5, 8 has 9
        due("kin(0)", f.kin(0), 2 + 4 + 8 + 16 + 64 + 128 + 256);
        due("kin(4)", f.kin(4), 1 + 2 + 4 + 8 + 32 + 64 + 128 + 256);
        due("kin(5)", f.kin(5), 16);
        due("kin(8)", f.kin(8), 1 + 2 + 4 + 8 + 16 + 64 + 128 + 512);
        due("kin(9)", f.kin(9), 256);
        due("kin(0) of a head alone", fresh().kin(0), 0);
        f.close(8);
        due("kin(9) of the head now", f.kin(9), 1 + 2 + 4 + 8 + 16 + 64 + 128);
        for (int c : NOT_OPEN) {
            refused("kin(" + c + ")", ClauseGroup::busy, g -> g.kin(c), BAD);
        }
    }

    private void distanceAtItsEnds() {
        clause("Promise 18", "BAD if one of them is not open.");
        ConnectionFamily f = new ConnectionFamily();
        for (int c = 0; c < 9; c++) {
            f.open(c, 1);
        }
        for (int c = 0; c <= 9; c++) {
            for (int d = 0; d <= 9; d++) {
                due("distance(" + c + ", " + d + ") in a chain", f.distance(c, d), Math.abs(c - d));
            }
        }
        ConnectionFamily g = new ConnectionFamily();
        Texts.load(g, "1(1(1(1(1)))1(1(1(1))))");
        due("distance between the ends of two chains", g.distance(4, 8), 8);
        due("distance between the ends of two chains", g.distance(8, 4), 8);
        for (int c : NOT_OPEN) {
            refused("distance(" + c + ", 0)", ClauseGroup::busy, h -> h.distance(c, 0), BAD);
            refused("distance(0, " + c + ")", ClauseGroup::busy, h -> h.distance(0, c), BAD);
            refused("distance(" + c + ", " + c + ")", ClauseGroup::busy, h -> h.distance(c, c), BAD);
        }
    }

    private void inFlightInItsPlace() {
        clause("Promise 19", "its place in the flight, from 0");
        ConnectionFamily f = onFastLink();
        deliver(f, 0, 542);
        int tick = f.told(CLOCK);
        f.give(0, 70);
        f.run(1);
        for (int i = 0; i <= 63; i++) {
            due("inFlight(0, " + i + ", 0)", f.inFlight(0, i, 0), 542 + i);
            due("inFlight(0, " + i + ", 1)", f.inFlight(0, i, 1), tick);
        }
        clause("Promise 19", "NONE if the flight has not so many packets;");
        due("inFlight(0, 64, 0)", f.inFlight(0, 64, 0), NONE);
        due("inFlight(0, 64, 1)", f.inFlight(0, 64, 1), NONE);
        due("inFlight(0, most, 0)", f.inFlight(0, MOST, 0), NONE);
        due("inFlight(0, 0, 0) of nothing", fresh().inFlight(0, 0, 0), NONE);
        clause("Promise 19", "BAD if c is not open, i is negative or what is out of range.");
        for (int i : new int[] {LEAST, -9, -1}) {
            refused("inFlight(0, " + i + ", 0)", ClauseGroup::busy, g -> g.inFlight(0, i, 0), BAD);
        }
        for (int what : new int[] {LEAST, -1, 2, MOST}) {
            refused("inFlight(0, 0, " + what + ")", ClauseGroup::busy, g -> g.inFlight(0, 0, what), BAD);
            refused("inFlight(0, 99, " + what + ")", ClauseGroup::busy, g -> g.inFlight(0, 99, what), BAD);
        }
        for (int c : NOT_OPEN) {
            refused("inFlight(" + c + ", 0, 0)", ClauseGroup::busy, g -> g.inFlight(c, 0, 0), BAD);
        }
    }

    private void queuedInItsPlace() {
        clause("Promise 20", "its place in the queue, from 0");
        ConnectionFamily f = onFastLink();
        deliver(f, 0, 542);
        f.setLink(1, 1);
        f.give(0, 64);
        f.run(1);
        due("told(7)", f.told(QUEUE), 59);
        due("queued(0)", f.queued(0), 0);
        due("queued(58)", f.queued(58), 0);
        clause("Promise 20", "NONE if there are not so many packets;");
        due("queued(59)", f.queued(59), NONE);
        due("queued(60)", f.queued(60), NONE);
        due("queued(most)", f.queued(MOST), NONE);
        due("queued(0) of nothing", fresh().queued(0), NONE);
        clause("Promise 20", "BAD if i is negative.");
        for (int i : new int[] {LEAST, -9, -1}) {
            refused("queued(" + i + ")", ClauseGroup::busy, g -> g.queued(i), BAD);
        }
    }

    /** The packet of 1 waits behind 13 of the head, on a link that serves one in a tick, until it is found lost. */
    private void queuedOfAClosedOne() {
        clause("Promise 20", "Returns the connection that sent it (also if it is open no more, or again);");
        ConnectionFamily f = onFastLink();
        f.setLink(2, 9);
        f.open(0, 1);
        deliver(f, 0, 12);
        due("window of the head", f.property(0, WINDOW), 13);
        f.setLink(1, 1);
        f.setLink(2, 1);
        f.give(0, 13);
        f.run(1);
        f.give(1, 1);
        f.run(10);
        due("told(7)", f.told(QUEUE), 3);
        due("queued(1)", f.queued(1), 0);
        due("queued(2)", f.queued(2), 1);
        // without a limit 1 does not send again after its timeout
        f.setWeight(0, 9);
        f.open(0, 9);
        f.setBudget(5);
        due("limit of 1", f.property(1, LIMIT), 0);
        f.run(1);
        due("timeouts of 1", f.count(1, TIMEOUTS), 1);
        due("queued(1) of an open one", f.queued(1), 1);
        due("close(1)", f.close(1), 0);
        due("queued(1) of a closed one", f.queued(1), 1);
        due("open(2, 1)", f.open(2, 1), 1);
        due("queued(1) of one that is open again", f.queued(1), 1);
        due("queued(2)", f.queued(2), NONE);
        f.run(3);
        due("its acknowledgement is late", f.told(LATE), 1);
    }

    private void dueIsAtLeastTheClock() {
        clause("Promise 21", "Returns the tick, at least that of the clock;");
        for (int wait = 0; wait <= 4; wait++) {
            ConnectionFamily f = new ConnectionFamily();
            sendWithDelay(f, 0, 30);
            due("0 + 10", f.due(0), 10);
            f.open(0, 1);
            sendWithDelay(f, 1, 1);
            f.run(1);
            if (wait > 0) {
                f.run(wait);
            }
            // the head gets S 8 and V 2 when 1 is closed: its timeout is 3, and the clock at 3 or later
            f.close(1);
            due("the clock", f.told(CLOCK), 3 + wait);
            due("due(0) at tick " + (3 + wait), f.due(0), 3 + wait);
            f.run(1);
            due("timeouts", f.count(0, TIMEOUTS), 1);
        }
        clause("Promise 21", "by its present timeout, if nothing was acknowledged or sent.");
        ConnectionFamily g = new ConnectionFamily();
        sendWithDelay(g, 0, 30);
        for (int tick = 1; tick <= 10; tick++) {
            due("due(0) at tick " + tick, g.due(0), 10);
            g.run(1);
        }
        due("due(0) after the timeout: 10 + 20", g.due(0), 30);
    }

    private void dueWithoutAFlight() {
        clause("Promise 21", "NONE if its flight is empty;");
        ConnectionFamily f = new ConnectionFamily();
        due("due(0) at first", f.due(0), NONE);
        f.give(0, 1);
        due("due(0) with a backlog", f.due(0), NONE);
        f.run(1);
        due("due(0) with a flight", f.due(0), 10);
        f.run(5);
        due("due(0) after its acknowledgement", f.due(0), NONE);
        clause("Promise 21", "BAD if c is not open.");
        for (int c : NOT_OPEN) {
            refused("due(" + c + ")", ClauseGroup::busy, g -> g.due(c), BAD);
        }
    }

    private void fairnessOfLimits() {
        clause("Promise 22", "Each connection whose limit is at least 1 has a number x");
        ConnectionFamily f = new ConnectionFamily();
        f.open(0, 1);
        trips(f, 0, 1);
        f.setBudget(2);
        properties("limits", f, LIMIT, 1, 1);
        due("fairness() of 60 and 0", f.fairness(), 500);
        f.setBudget(1);
        properties("limits", f, LIMIT, 1, 0);
        due("fairness() of 60 alone", f.fairness(), 1000);
        f.setWeight(1, 9);
        properties("limits", f, LIMIT, 0, 1);
        due("fairness() of 0 alone", f.fairness(), NONE);
        ConnectionFamily g = onFastLink();
        deliver(g, 0, 3000);
        g.setBudget(1);
        due("fairness() of a great x", g.fairness(), 1000);
        g.open(0, 1);
        g.setBudget(2);
        due("fairness() of a great x and 0", g.fairness(), 500);
    }

    private void fairnessOfNothing() {
        clause("Promise 22", "NONE if there is no such connection, or all x are 0.");
        due("fairness() at first", fresh().fairness(), NONE);
        due("fairness() of ten", ofTen().fairness(), NONE);
        ConnectionFamily f = new ConnectionFamily();
        trips(f, 0, 1);
        f.setBudget(60);
        due("fairness() of 60 / 60", f.fairness(), 1000);
        f.setBudget(61);
        due("fairness() of 60 / 61", f.fairness(), NONE);
        trips(f, 0, 1);
        f.setBudget(120);
        due("fairness() of 120 / 120", f.fairness(), 1000);
        f.setBudget(121);
        due("fairness() of 120 / 121", f.fairness(), NONE);
    }

    private void fairnessIsRoundedOnce() {
        clause("Promise 22", "Returns 1000 * s * s / (n * q), rounded down once, at the end;");
        ConnectionFamily f = new ConnectionFamily();
        f.open(0, 1);
        f.setBudget(120);
        trips(f, 0, 1);
        // x is 1 and 0: 1000 * 1 / (2 * 1)
        due("fairness() of 1 and 0", f.fairness(), 500);
        trips(f, 1, 2);
        // 1 and 2: 1000 * 9 / (2 * 5)
        due("fairness() of 1 and 2", f.fairness(), 900);
        trips(f, 0, 1);
        trips(f, 1, 1);
        // 2 and 3: 1000 * 25 / (2 * 13) is 961.5
        due("fairness() of 2 and 3", f.fairness(), 961);
        clause("Promise 22", "divided by its limit and rounded down.");
        f.setBudget(200);
        // 120 / 100 and 180 / 100
        due("fairness() of 1 and 1", f.fairness(), 1000);
    }
}
