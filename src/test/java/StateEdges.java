/** STATE OF A CONNECTION and THE LINK: what is at first, the ranges, the window and the timeout. */
final class StateEdges extends ClauseGroup {
    private static final String STATES = "STATE OF A CONNECTION";

    StateEdges(Check check, Doc doc) {
        super(check, doc);
    }

    @Override
    void all() {
        backlogIs0To9999();
        packetsAreNumberedFrom0();
        creditIsAtMost1024();
        thresholdAtFirst();
        samplesAre0To16();
        noEstimatesAtFirst();
        backoffPenaltyAndMarkAtFirst();
        windowIsTheSmallerOne();
        windowIsAtLeast1();
        windowByPenalty();
        timeoutWithoutEstimates();
        timeoutIsAtLeast2();
        timeoutIsAtMost400();
        timeoutOfGreatV();
        capacityIs1To60();
        rateIs1To8();
        delayIs1To30();
        delayOfThatTime();
    }

    private void backlogIs0To9999() {
        clause(STATES, "The backlog is the number of packets that are still to be sent (0 to 9999).");
        due("at first", fresh().property(0, BACKLOG), 0);
        ConnectionFamily f = new ConnectionFamily();
        fillBacklog(f, 0, 9998);
        due("give(0, 2)", f.give(0, 2), FULL);
        due("backlog", f.property(0, BACKLOG), 9998);
        due("give(0, 1)", f.give(0, 1), 9999);
        due("give(0, 1)", f.give(0, 1), FULL);
        due("backlog", f.property(0, BACKLOG), 9999);
        ConnectionFamily g = new ConnectionFamily();
        g.give(0, 1);
        g.run(60);
        due("backlog after its last packet", g.property(0, BACKLOG), 0);
    }

    private void packetsAreNumberedFrom0() {
        clause(STATES, "each packet of a connection has a number, from 0.");
        ConnectionFamily f = new ConnectionFamily();
        due("the next one at first", f.property(0, NEXT), 0);
        f.open(0, 1);
        f.give(0, 1);
        f.give(1, 1);
        f.run(1);
        for (int c = 0; c <= 1; c++) {
            due("inFlight(" + c + ", 0, 0)", f.inFlight(c, 0, 0), 0);
            due("the next one of " + c, f.property(c, NEXT), 1);
        }
    }

    private void creditIsAtMost1024() {
        clause(STATES, "The credit is a number of sixteenths of a packet, at most 1024 (32 for the head at first);");
        due("credit", fresh().property(0, CREDIT), 32);
        ConnectionFamily f = ofCredit1023();
        due("credit after 541 packets", f.property(0, CREDIT), 1023);
        trips(f, 0, 1);
        due("credit after one more", f.property(0, CREDIT), 1024);
        due("window", f.property(0, WINDOW), 64);
        trips(f, 0, 1);
        due("credit after two more", f.property(0, CREDIT), 1024);
        due("window", f.property(0, WINDOW), 64);
    }

    /** 30 packets bring 16 each, to 512; 511 more bring 1 each. */
    private ConnectionFamily ofCredit1023() {
        ConnectionFamily f = onFastLink();
        deliver(f, 0, 541);
        due("no loss", f.count(0, LOST), 0);
        return f;
    }

    private void thresholdAtFirst() {
        clause(STATES, "the threshold is a number of packets (32 for the head at first).");
        due("threshold", fresh().property(0, THRESHOLD), 32);
    }

    private void samplesAre0To16() {
        clause(STATES, "and a number of samples (0 to 16);");
        ConnectionFamily f = onFastLink();
        for (int n = 0; n <= 20; n++) {
            due("samples after " + n, f.property(0, SAMPLES), Math.min(16, n));
            trips(f, 0, 1);
        }
    }

    private void noEstimatesAtFirst() {
        clause(STATES, "there are none at first.");
        due("S", fresh().property(0, S), NONE);
        due("V", fresh().property(0, V), NONE);
        due("samples", fresh().property(0, SAMPLES), 0);
        ConnectionFamily f = new ConnectionFamily();
        f.give(0, 1);
        f.run(5);
        due("S before the first sample", f.property(0, S), NONE);
        due("V before the first sample", f.property(0, V), NONE);
        f.run(1);
        due("S by the first sample", f.property(0, S), 40);
        due("V by the first sample", f.property(0, V), 10);
    }

    private void backoffPenaltyAndMarkAtFirst() {
        clause(STATES, "There are a backoff (0 to 6; 0 at first), a penalty (0 to 12; 0 at first), and a mark (0 at first).");
        due("backoff", fresh().property(0, BACKOFF), 0);
        due("penalty", fresh().property(0, PENALTY), 0);
        due("mark", fresh().property(0, MARK), 0);
    }

    private void windowIsTheSmallerOne() {
        clause(STATES, "The window is the smaller one of credit / 16 and the limit");
        ConnectionFamily f = onFastLink();
        trips(f, 0, 2);
        due("credit", f.property(0, CREDIT), 64);
        for (int budget = 1; budget <= 6; budget++) {
            f.setBudget(budget);
            due("window of a limit of " + budget, f.property(0, WINDOW), Math.min(4, budget));
        }
        f.setWeight(0, 9);
        f.open(0, 1);
        // 64 - 64 * 1 / 10
        due("credit", f.property(0, CREDIT), 58);
        f.setBudget(200);
        due("window of 58 sixteenths", f.property(0, WINDOW), 3);
    }

    private void windowIsAtLeast1() {
        clause(STATES, "but at least 1, if the limit is at least 1 (and 0, if the limit is 0).");
        ConnectionFamily f = ofTen();
        // the credits are 1, 16, 8, 4, 2, 1, 0, 0, 0, 0
        properties("halves of halves", f, CREDIT, 1, 16, 8, 4, 2, 1, 0, 0, 0, 0);
        properties("limits of 4", f, WINDOW, 1, 1, 1, 1, 1, 1, 1, 1, 1, 1);
        f.setBudget(9);
        properties("limits of 1, but for the last", f, LIMIT, 1, 1, 1, 1, 1, 1, 1, 1, 1, 0);
        properties("limits of 1, but for the last", f, WINDOW, 1, 1, 1, 1, 1, 1, 1, 1, 1, 0);
        for (int c = 0; c <= 9; c++) {
            f.give(c, 2);
        }
        f.run(1);
        properties("a window of 1 sends one, one of 0 none", f, FLIGHT, 1, 1, 1, 1, 1, 1, 1, 1, 1, 0);
        f.run(60);
        due("a window of 0 sends nothing at all", f.count(9, SENT), 0);
    }

    /** The head has had so many trips when each of its children finds a timeout, which its penalty feels by 2 each. */
    private ConnectionFamily afterTimeoutsOfChildren(int children, int trips) {
        ConnectionFamily f = onFastLink();
        f.setWeight(0, 9);
        for (int c = 1; c <= children; c++) {
            f.open(0, 1);
        }
        trips(f, 0, trips);
        if (f.told(CLOCK) % 8 == 6) {
            // so that the penalties do not become less in the very tick of the timeouts
            f.run(1);
        }
        f.setLink(2, 30);
        for (int c = 1; c <= children; c++) {
            f.give(c, 1);
        }
        f.run(11);
        due("timeouts of the last child", f.count(children, TIMEOUTS), 1);
        return f;
    }

    private void windowByPenalty() {
        clause(STATES, "times (16 - penalty), divided by 16;");
        for (int children = 1; children <= 7; children++) {
            ConnectionFamily f = afterTimeoutsOfChildren(children, 15);
            int penalty = Math.min(12, 2 * children);
            due("packets of credit of the head", f.property(0, CREDIT) / 16, 16);
            due("penalty of the head", f.property(0, PENALTY), penalty);
            due("window of 16 packets", f.property(0, WINDOW), 16 - penalty);
        }
        int[][] tripsPacketsWindow = {{2, 3, 1}, {3, 4, 1}, {6, 7, 1}, {7, 8, 2}, {10, 11, 2}, {11, 12, 3}};
        for (int[] one : tripsPacketsWindow) {
            // the credit is 19 after six children: 32, less a tenth of what is left each time
            ConnectionFamily f = afterTimeoutsOfChildren(6, one[0]);
            due("credit of the head", f.property(0, CREDIT), 19 + 16 * one[0]);
            due("penalty of the head", f.property(0, PENALTY), 12);
            due("window of " + one[1] + " packets by 4 / 16", f.property(0, WINDOW), one[2]);
        }
    }

    private void timeoutWithoutEstimates() {
        clause(STATES, "The timeout is 10 if there are no estimates");
        due("timeout", fresh().property(0, TIMEOUT), 10);
        ConnectionFamily f = new ConnectionFamily();
        f.open(0, 1);
        due("timeout of a child", f.property(1, TIMEOUT), 10);
        clause(STATES, "otherwise S / 8 + V");
        trips(f, 0, 1);
        due("5 + 10", f.property(0, TIMEOUT), 15);
        due("its child has none still", f.property(1, TIMEOUT), 10);
    }

    /** No trip is shorter than 1 tick, and V never falls below 2: the timeout can't be below 3, at its smallest. */
    private void timeoutIsAtLeast2() {
        clause(STATES, "but at least 2;");
        ConnectionFamily f = onFastLink();
        for (int i = 0; i < 40; i++) {
            trips(f, 0, 1);
            due("timeout by trips of 1 tick", f.property(0, TIMEOUT), 3);
        }
        due("S", f.property(0, S), 8);
        due("V", f.property(0, V), 2);
    }

    /** At each tick at which 1 sends, the head is the first and takes the only place of the queue. */
    private void timeoutsByBackoff(ConnectionFamily f, int... timeouts) {
        f.setLink(0, 1);
        f.give(1, 1);
        int tick = f.told(CLOCK);
        for (int i = 0; i < timeouts.length; i++) {
            f.give(0, 1);
            f.run(1);
            due("backoff at " + tick, f.property(1, BACKOFF), Math.min(6, i));
            due("timeout at " + tick, f.property(1, TIMEOUT), timeouts[i]);
            due("losses at " + tick, f.count(1, TIMEOUTS), i);
            runUntil(f, tick + timeouts[i]);
            due("losses before " + (tick + timeouts[i]), f.count(1, TIMEOUTS), i);
            tick += timeouts[i];
        }
        f.run(1);
        due("losses at the end", f.count(1, TIMEOUTS), timeouts.length);
    }

    private void timeoutIsAtMost400() {
        clause(STATES, "times 2 to the power of the backoff;");
        ConnectionFamily f = new ConnectionFamily();
        f.open(0, 1);
        timeoutsByBackoff(f, 10, 20, 40, 80, 160, 320, 400, 400);
        clause(STATES, "but at most 400.");
        ConnectionFamily g = new ConnectionFamily();
        trips(g, 0, 1);
        runUntil(g, 10);
        g.open(0, 1);
        // S 40 and V 20: 25 times 16 is 400
        timeoutsByBackoff(g, 25, 50, 100, 200, 400, 400, 400);
    }

    private void timeoutOfGreatV() {
        clause(STATES, "otherwise S / 8 + V, but at least 2; times 2 to the power of the backoff; but at most 400.");
        ConnectionFamily f = new ConnectionFamily();
        trips(f, 0, 1);
        int last = 0;
        for (int n = 1; n <= 60; n++) {
            if (f.told(OPEN) == 10) {
                f.close(last == 9 ? 1 : last + 1);
            }
            last = f.open(last, 9);
            due("timeout of the " + n + "th heir", f.property(last, TIMEOUT), n <= 5 ? 5 + (10 << n) : 400);
            if (n <= 27) {
                due("V of the " + n + "th heir", f.property(last, V), 10 << n);
            }
            due("S of the " + n + "th heir", f.property(last, S), 40);
        }
    }

    private void capacityIs1To60() {
        clause("THE LINK", "has a queue of some capacity (1 to 60; 20 at first)");
        ConnectionFamily f = new ConnectionFamily();
        due("told(2)", f.told(CAPACITY), 20);
        due("setLink(0, 60)", f.setLink(0, 60), 20);
        due("setLink(0, 1)", f.setLink(0, 1), 60);
        due("told(2)", f.told(CAPACITY), 1);
        for (int v : new int[] {LEAST, -1, 0, 61, MOST}) {
            refused("setLink(0, " + v + ")", ClauseGroup::busy, g -> g.setLink(0, v), BAD);
        }
    }

    private void rateIs1To8() {
        clause("THE LINK", "a rate (1 to 8; 2)");
        ConnectionFamily f = new ConnectionFamily();
        due("told(3)", f.told(RATE), 2);
        due("setLink(1, 8)", f.setLink(1, 8), 2);
        due("setLink(1, 1)", f.setLink(1, 1), 8);
        due("told(3)", f.told(RATE), 1);
        for (int v : new int[] {LEAST, -1, 0, 9, MOST}) {
            refused("setLink(1, " + v + ")", ClauseGroup::busy, g -> g.setLink(1, v), BAD);
        }
    }

    private void delayIs1To30() {
        clause("THE LINK", "and a delay (1 to 30; 5).");
        ConnectionFamily f = new ConnectionFamily();
        due("told(4)", f.told(DELAY), 5);
        due("setLink(2, 30)", f.setLink(2, 30), 5);
        due("setLink(2, 1)", f.setLink(2, 1), 30);
        due("told(4)", f.told(DELAY), 1);
        for (int v : new int[] {LEAST, -1, 0, 31, MOST}) {
            refused("setLink(2, " + v + ")", ClauseGroup::busy, g -> g.setLink(2, v), BAD);
        }
    }

    private void delayOfThatTime() {
        clause("THE LINK", "its acknowledgement comes at tick t + delay (with the delay of that time).");
        for (int delay : new int[] {1, 2, 29, 30}) {
            ConnectionFamily f = new ConnectionFamily();
            sendWithDelay(f, 0, delay);
            f.setLink(2, delay == 30 ? 1 : 30);
            if (delay > 1) {
                f.run(delay - 1);
            }
            due("on their way before tick " + delay, f.told(ON_WAY) > 0 ? 1 : 0, 1);
            due("come before tick " + delay, f.told(LATE) + f.count(0, ACKNOWLEDGED), delay == 30 ? 1 : 0);
            f.run(1);
            due("come at tick " + delay, f.told(LATE) + f.count(0, ACKNOWLEDGED), delay == 30 ? 2 : 1);
        }
    }
}
