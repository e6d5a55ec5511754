/** TICKS: how losses are found, and what they do to a connection and its kin. */
final class LossEdges extends ClauseGroup {
    LossEdges(Check check, Doc doc) {
        super(check, doc);
    }

    @Override
    void all() {
        timeoutAtItsTick();
        timeoutAfterItsTick();
        timeoutOfTheWholeFlight();
        noTimeoutWithoutAFlight();
        noGapBelowTheMark();
        gapAtTheMark();
        thresholdByAGap();
        thresholdByATimeout();
        backoffIs6AtMost();
        backoffEnds();
        penaltyByAGap();
        penaltyByATimeout();
        penaltiesAre12AtMost();
        markByBoth();
    }

    private void timeoutAtItsTick() {
        clause("TICKS", "that has a flight whose first packet was sent at tick t - timeout or before:");
        for (int sentAt : new int[] {0, 1, 7, 19}) {
            ConnectionFamily f = new ConnectionFamily();
            runUntil(f, sentAt);
            sendWithDelay(f, 0, 30);
            runUntil(f, sentAt + 10);
            due("timeouts before tick " + (sentAt + 10), f.count(0, TIMEOUTS), 0);
            f.run(1);
            due("timeouts at tick " + (sentAt + 10), f.count(0, TIMEOUTS), 1);
        }
        ConnectionFamily g = new ConnectionFamily();
        sendWithDelay(g, 0, 10);
        due("an acknowledgement in the tick of the timeout comes first", g.run(10), 1);
        due("timeouts", g.count(0, TIMEOUTS), 0);
        ConnectionFamily h = new ConnectionFamily();
        sendWithDelay(h, 0, 11);
        due("one in the tick after it is late", h.run(11), 0);
        due("timeouts", h.count(0, TIMEOUTS), 1);
        due("told(10)", h.told(LATE), 1);
    }

    /** The head gets the shorter timeout of its child when that one is closed. */
    private void timeoutAfterItsTick() {
        clause("TICKS", "was sent at tick t - timeout or before:");
        ConnectionFamily f = new ConnectionFamily();
        sendWithDelay(f, 0, 30);
        f.open(0, 1);
        f.run(3);
        sendWithDelay(f, 1, 1);
        f.run(3);
        due("the clock", f.told(CLOCK), 8);
        f.close(1);
        due("timeout by S 8 and V 2", f.property(0, TIMEOUT), 3);
        due("timeouts", f.count(0, TIMEOUTS), 0);
        f.run(1);
        due("timeouts of a packet sent 8 ticks ago", f.count(0, TIMEOUTS), 1);
    }

    private void timeoutOfTheWholeFlight() {
        clause("TICKS", "all packets of the flight are found lost, and there is a timeout loss.");
        ConnectionFamily f = new ConnectionFamily();
        sendWithDelay(f, 0, 30);
        f.run(8);
        sendWithDelay(f, 0, 30);
        due("flight before tick 10", f.property(0, FLIGHT), 2);
        f.run(1);
        due("lost, also the one of tick 9", f.count(0, LOST), 2);
        due("timeout losses", f.count(0, TIMEOUTS), 1);
        due("the next one in flight", f.inFlight(0, 0, 0), 2);
        due("flight by a window of 1", f.property(0, FLIGHT), 1);
        due("backlog", f.property(0, BACKLOG), 1);
    }

    private void noTimeoutWithoutAFlight() {
        clause("TICKS", "For each open connection, in ascending order, that has a flight");
        ConnectionFamily f = ofTen();
        f.run(60);
        for (int c = 0; c <= 9; c++) {
            due("timeouts of " + c, f.count(c, TIMEOUTS), 0);
        }
        properties("no penalty", f, PENALTY, 0, 0, 0, 0, 0, 0, 0, 0, 0, 0);
    }

    /** 14 packets are acknowledged: the credit is 256, the timeout 8, and 14 the next packet. */
    private ConnectionFamily beforeGaps() {
        ConnectionFamily f = new ConnectionFamily();
        f.setLink(1, 8);
        deliver(f, 0, 14);
        due("credit", f.property(0, CREDIT), 256);
        due("timeout", f.property(0, TIMEOUT), 8);
        due("next", f.property(0, NEXT), 14);
        return f;
    }

    private void noGapBelowTheMark() {
        clause("TICKS", "and if the first one of them has a number of at least the mark, there is a gap loss.");
        ConnectionFamily f = beforeGaps();
        sendWithDelay(f, 0, 30);
        sendWithDelay(f, 0, 2);
        sendWithDelay(f, 0, 30);
        f.setLink(2, 1);
        f.run(1);
        // the acknowledgement of 15 finds 14 lost, which is sent again as 17; 16 is still in flight
        due("gap losses", f.count(0, GAPS), 1);
        due("mark", f.property(0, MARK), 17);
        due("first in flight", f.inFlight(0, 0, 0), 16);
        due("run(1)", f.run(1), 1);
        due("lost", f.count(0, LOST), 2);
        due("gap losses, 16 being below the mark", f.count(0, GAPS), 1);
        due("mark", f.property(0, MARK), 17);
        due("credit", f.property(0, CREDIT), 128);
        due("threshold", f.property(0, THRESHOLD), 8);
    }

    private void gapAtTheMark() {
        clause("TICKS", "has a number of at least the mark");
        ConnectionFamily f = beforeGaps();
        sendWithDelay(f, 0, 30);
        sendWithDelay(f, 0, 1);
        f.setLink(2, 30);
        f.run(1);
        // the acknowledgement of 15 finds 14 lost, which is sent again as 16
        due("gap losses", f.count(0, GAPS), 1);
        due("mark", f.property(0, MARK), 16);
        due("first in flight", f.inFlight(0, 0, 0), 16);
        sendWithDelay(f, 0, 1);
        due("run(1)", f.run(1), 1);
        due("lost", f.count(0, LOST), 2);
        due("gap losses, 16 being the mark", f.count(0, GAPS), 2);
        due("mark", f.property(0, MARK), 18);
        due("credit", f.property(0, CREDIT), 64);
        due("threshold", f.property(0, THRESHOLD), 4);
        ConnectionFamily g = new ConnectionFamily();
        sendWithDelay(g, 0, 30);
        sendWithDelay(g, 0, 1);
        g.run(1);
        due("gap losses, packet 0 being the mark at first", g.count(0, GAPS), 1);
    }

    /** The credits and the thresholds that a loss makes of them. */
    private static final int[][] THRESHOLDS = {{32, 2}, {48, 2}, {64, 2}, {80, 2}, {96, 3}, {112, 3}, {128, 4}, {496, 15},
        {512, 16}};

    private static ConnectionFamily ofCredit(int credit) {
        ConnectionFamily f = new ConnectionFamily();
        f.setLink(0, 60);
        f.setLink(1, 8);
        f.setBudget(200);
        deliver(f, 0, (credit - 32) / 16);
        return f;
    }

    private void thresholdByAGap() {
        clause("TICKS", "By a gap loss the threshold becomes credit / 32, but at least 2;");
        for (int[] one : THRESHOLDS) {
            ConnectionFamily f = ofCredit(one[0]);
            due("credit before", f.property(0, CREDIT), one[0]);
            sendWithDelay(f, 0, 30);
            sendWithDelay(f, 0, 1);
            f.run(1);
            due("gap losses", f.count(0, GAPS), 1);
            due("threshold by a gap loss at " + one[0], f.property(0, THRESHOLD), one[1]);
            due("credit by a gap loss at " + one[0], f.property(0, CREDIT), 16 * one[1]);
            due("backoff", f.property(0, BACKOFF), 0);
        }
    }

    private void thresholdByATimeout() {
        clause("TICKS", "By a timeout loss the threshold becomes credit / 32, but at least 2;");
        for (int[] one : THRESHOLDS) {
            ConnectionFamily f = ofCredit(one[0]);
            due("credit before", f.property(0, CREDIT), one[0]);
            sendWithDelay(f, 0, 30);
            int timeout = f.property(0, TIMEOUT);
            f.run(timeout);
            due("timeout losses", f.count(0, TIMEOUTS), 1);
            due("threshold by a timeout loss at " + one[0], f.property(0, THRESHOLD), one[1]);
            due("credit by a timeout loss at " + one[0], f.property(0, CREDIT), 16);
            due("backoff", f.property(0, BACKOFF), 1);
        }
        ConnectionFamily g = ofTen();
        g.setLink(2, 30);
        g.give(9, 1);
        g.run(11);
        due("threshold by a timeout loss at 0", g.property(9, THRESHOLD), 2);
        due("credit by a timeout loss at 0", g.property(9, CREDIT), 16);
    }

    /** The head takes the only place of the queue whenever 1 sends: 1 finds so many timeouts. */
    private static ConnectionFamily afterTimeouts(int n) {
        ConnectionFamily f = new ConnectionFamily();
        f.open(0, 1);
        f.setLink(0, 1);
        f.give(1, 1);
        for (int i = 0; i < n; i++) {
            f.give(0, 1);
            runUntil(f, f.told(CLOCK) + 1);
            runUntil(f, f.due(1));
        }
        f.give(0, 1);
        f.run(1);
        return f;
    }

    private void backoffIs6AtMost() {
        clause("TICKS", "the backoff becomes one more (6 at most);");
        for (int n = 0; n <= 9; n++) {
            ConnectionFamily f = afterTimeouts(n);
            due("timeouts", f.count(1, TIMEOUTS), n);
            due("dropped", f.count(1, DROPPED), n + 1);
            due("backoff after " + n + " timeouts", f.property(1, BACKOFF), Math.min(6, n));
        }
    }

    private void backoffEnds() {
        clause("TICKS", "and the backoff 0.");
        ConnectionFamily f = afterTimeouts(7);
        runUntil(f, f.due(1));
        f.setLink(2, 1);
        f.run(1);
        due("backoff", f.property(1, BACKOFF), 6);
        due("run(1)", f.run(1), 1);
        due("backoff after an acknowledgement", f.property(1, BACKOFF), 0);
        due("timeout after an acknowledgement", f.property(1, TIMEOUT), 3);
    }

    private void penaltyByAGap() {
        clause("TICKS", "the penalty grows by 2, that of each of its kin by 1.");
        ConnectionFamily f = new ConnectionFamily();
        Texts.load(f, "1(1(1(1)1)1(1))");
        // the credit of 2 grows from 4 to 68; its limit is 2
        trips(f, 2, 4);
        due("window of 2", f.property(2, WINDOW), 2);
        sendWithDelay(f, 2, 9);
        sendWithDelay(f, 2, 1);
        f.run(1);
        due("gap losses of 2", f.count(2, GAPS), 1);
        properties("2 has the parent 1, the child 3 and the sibling 4", f, PENALTY, 0, 1, 2, 1, 1, 0, 0);
    }

    private void penaltyByATimeout() {
        clause("TICKS", "the penalty grows by 4, that of each of its kin by 2.");
        ConnectionFamily f = new ConnectionFamily();
        Texts.load(f, "1(1(1(1)1)1(1))");
        sendWithDelay(f, 2, 30);
        f.run(9);
        properties("before tick 10", f, PENALTY, 0, 0, 0, 0, 0, 0, 0);
        f.run(1);
        properties("2 has the parent 1, the child 3 and the sibling 4", f, PENALTY, 0, 2, 4, 2, 2, 0, 0);
        ConnectionFamily g = new ConnectionFamily();
        sendWithDelay(g, 0, 30);
        g.run(10);
        due("the head without kin", g.property(0, PENALTY), 4);
    }

    /**
     * At tick 10 the head takes the only place of the queue, and the packets of its children are dropped: by S 72 and
     * V 28 they find their timeouts at tick 47. The head sends a packet at tick 45, and one at tick 46 that overtakes
     * it.
     */
    private ConnectionFamily beforeAGapOfTheHead(int children, int delay) {
        ConnectionFamily f = new ConnectionFamily();
        f.setLink(2, 9);
        f.give(0, 2);
        f.run(10);
        f.setWeight(0, 9);
        f.setLink(0, 1);
        for (int c = 1; c <= children; c++) {
            f.open(0, 1);
            f.give(c, 1);
        }
        f.give(0, 1);
        runUntil(f, 45);
        sendWithDelay(f, 0, 30);
        sendWithDelay(f, 0, delay);
        due("flight of the head", f.property(0, FLIGHT), 2);
        f.run(1);
        for (int c = 1; c <= children; c++) {
            due("timeouts of " + c + " of " + children, f.count(c, TIMEOUTS), 1);
        }
        return f;
    }

    private void penalties(String when, ConnectionFamily f, int children, int ofHead, int ofChild) {
        due(when + ": penalty of the head", f.property(0, PENALTY), ofHead);
        for (int c = 1; c <= children; c++) {
            due(when + ": penalty of " + c, f.property(c, PENALTY), ofChild);
        }
    }

    private void penaltiesAre12AtMost() {
        clause("TICKS", "Penalties are 12 at most.");
        // by timeouts at tick 47: 2 of each child for the head; 4 of its own and 2 of each other for a child
        int[][] byTimeouts = {{1, 2, 4}, {3, 6, 8}, {4, 8, 10}, {5, 10, 12}, {6, 12, 12}};
        for (int[] one : byTimeouts) {
            int children = one[0];
            ConnectionFamily f = beforeAGapOfTheHead(children, 2);
            penalties("after tick 47", f, children, one[1], one[2]);
            f.run(1);
            due("gap losses of the head at tick 48", f.count(0, GAPS), 1);
            // 2 more for the head and 1 more for each child, but 12 at most; then 1 less
            penalties("after tick 48", f, children, Math.min(12, one[1] + 2) - 1, Math.min(12, one[2] + 1) - 1);

            ConnectionFamily g = beforeAGapOfTheHead(children, 3);
            g.run(1);
            penalties("after tick 48, without a gap", g, children, one[1] - 1, one[2] - 1);
            g.run(1);
            due("gap losses of the head at tick 49", g.count(0, GAPS), 1);
            penalties("after tick 49", g, children, Math.min(12, one[1] + 1), one[2]);
        }
        ConnectionFamily h = ofTen();
        h.setLink(2, 30);
        for (int c = 0; c <= 9; c++) {
            h.give(c, 1);
        }
        h.run(11);
        properties("timeouts of all ten", h, PENALTY, 12, 12, 12, 12, 12, 12, 12, 12, 12, 12);
    }

    private void markByBoth() {
        clause("TICKS", "By both, the mark becomes the number of the next packet that the connection will send.");
        ConnectionFamily f = new ConnectionFamily();
        sendWithDelay(f, 0, 30);
        f.run(9);
        due("mark before a loss", f.property(0, MARK), 0);
        f.run(1);
        due("mark by a timeout loss", f.property(0, MARK), 1);
        due("next", f.property(0, NEXT), 2);
    }
}
