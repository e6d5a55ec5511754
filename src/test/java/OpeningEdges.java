/** OPENING AND CLOSING: what a new connection gets, and what a closed one gives back. */
final class OpeningEdges extends ClauseGroup {
    private static final String OPENING = "OPENING AND CLOSING";

    OpeningEdges(Check check, Doc doc) {
        super(check, doc);
    }

    @Override
    void all() {
        smallestNumberNotOpen();
        noBacklog();
        creditIsRoundedDown();
        creditOfNothing();
        estimatesOnlyIfTheParentHasThem();
        estimatesWithoutSamples();
        firstSampleReplaces();
        startsAnew();
        startsAnewAfterAWornOne();
        childrenOfAClosedOne();
        creditTo1024AtMost();
        backlogTo9999AtMost();
        theGreaterPenalty();
        closedWithoutSamples();
        parentWithoutSamples();
        bothWithSamples();
        samplesTo16AtMost();
    }

    private void smallestNumberNotOpen() {
        clause(OPENING, "A connection that is opened gets the smallest number that is not open");
        ConnectionFamily f = new ConnectionFamily();
        for (int c = 1; c <= 9; c++) {
            due("open(0, 1)", f.open(0, 1), c);
        }
        due("open(0, 1)", f.open(0, 1), FULL);
        for (int c : new int[] {9, 4, 1}) {
            f.close(c);
        }
        due("open(0, 1) without 1, 4 and 9", f.open(0, 1), 1);
        due("open(0, 1) without 4 and 9", f.open(0, 1), 4);
        due("open(0, 1) without 9", f.open(0, 1), 9);
        due("open(0, 1) with all", f.open(0, 1), FULL);
    }

    private void noBacklog() {
        clause(OPENING, "and no backlog.");
        ConnectionFamily f = new ConnectionFamily();
        f.open(0, 1);
        f.give(1, 7);
        f.give(0, 5);
        f.close(1);
        due("open(0, 1)", f.open(0, 1), 1);
        due("backlog", f.property(1, BACKLOG), 0);
        due("backlog of the parent", f.property(0, BACKLOG), 12);
    }

    private void creditIsRoundedDown() {
        clause(OPENING, "Its credit is that of its parent, times its weight, divided by the sum of its weight and that of its parent;");
        int[][] weightsCredit = {{1, 1, 16}, {1, 9, 28}, {9, 1, 3}, {9, 9, 16}, {2, 1, 10}, {1, 2, 21}, {5, 3, 12}};
        for (int[] one : weightsCredit) {
            ConnectionFamily f = new ConnectionFamily();
            f.setWeight(0, one[0]);
            f.open(0, one[1]);
            due("credit by weights " + one[0] + " and " + one[1], f.property(1, CREDIT), one[2]);
            due("the parent has so much less", f.property(0, CREDIT), 32 - one[2]);
        }
        clause(OPENING, "the parent has so much less.");
        ConnectionFamily f = ofTen();
        due("all credits of ten", f.told(CREDITS), 32);
    }

    private void creditOfNothing() {
        clause(OPENING, "Its credit is that of its parent, times its weight");
        ConnectionFamily f = new ConnectionFamily();
        int last = 0;
        int[] credits = {16, 8, 4, 2, 1, 0, 0, 0, 0};
        for (int want : credits) {
            last = f.open(last, 1);
            due("credit of " + last, f.property(last, CREDIT), want);
        }
        due("the parent of the first without credit keeps its own", f.property(5, CREDIT), 1);
        due("all credits", f.told(CREDITS), 32);
    }

    private void estimatesOnlyIfTheParentHasThem() {
        clause(OPENING, "S as its parent, V twice as great (if the parent has estimates)");
        ConnectionFamily f = new ConnectionFamily();
        f.open(0, 1);
        due("S without estimates", f.property(1, S), NONE);
        due("V without estimates", f.property(1, V), NONE);
        due("timeout without estimates", f.property(1, TIMEOUT), 10);
        trips(f, 0, 1);
        due("S of one opened before", f.property(1, S), NONE);
        f.open(0, 1);
        due("S", f.property(2, S), 40);
        due("V", f.property(2, V), 20);
        due("S of the parent", f.property(0, S), 40);
        due("V of the parent", f.property(0, V), 10);
        f.open(1, 1);
        due("S of a child of one without", f.property(3, S), NONE);
    }

    private void estimatesWithoutSamples() {
        clause(OPENING, "the number of samples 0 (it has estimates, though, if its parent has;");
        ConnectionFamily f = new ConnectionFamily();
        trips(f, 0, 1);
        f.open(0, 1);
        f.open(1, 1);
        due("samples of a child", f.property(1, SAMPLES), 0);
        due("samples of its child", f.property(2, SAMPLES), 0);
        due("S of its child", f.property(2, S), 40);
        due("V of its child", f.property(2, V), 40);
        due("timeout of its child", f.property(2, TIMEOUT), 45);
    }

    private void firstSampleReplaces() {
        clause(OPENING, "its first sample replaces them), the backoff 0 and the mark 0");
        ConnectionFamily f = new ConnectionFamily();
        trips(f, 0, 1);
        f.open(0, 1);
        f.setLink(2, 3);
        trips(f, 1, 1);
        due("S", f.property(1, S), 24);
        due("V", f.property(1, V), 6);
        due("samples", f.property(1, SAMPLES), 1);
        trips(f, 1, 1);
        due("V by the second sample", f.property(1, V), 5);
    }

    private void startsAnew() {
        clause(OPENING, "and its packets are numbered from 0.");
        ConnectionFamily f = new ConnectionFamily();
        sendWithDelay(f, 0, 30);
        f.run(10);
        f.open(0, 1);
        due("next of the parent", f.property(0, NEXT), 2);
        due("mark of the parent", f.property(0, MARK), 1);
        due("backoff of the parent", f.property(0, BACKOFF), 1);
        due("next", f.property(1, NEXT), 0);
        due("mark", f.property(1, MARK), 0);
        due("backoff", f.property(1, BACKOFF), 0);
        clause(OPENING, "It has the threshold and the penalty of its parent");
        due("threshold", f.property(1, THRESHOLD), 2);
        due("penalty", f.property(1, PENALTY), 4);
    }

    /** Connection 1 has had a gap loss and, without a limit to send again, a timeout loss when it is closed. */
    private void startsAnewAfterAWornOne() {
        clause(OPENING, "the backoff 0 and the mark 0, and its packets are numbered from 0.");
        ConnectionFamily f = new ConnectionFamily();
        f.open(0, 9);
        trips(f, 1, 1);
        sendWithDelay(f, 1, 30);
        sendWithDelay(f, 1, 1);
        f.run(2);
        sendWithDelay(f, 1, 30);
        f.setWeight(0, 9);
        f.setWeight(1, 1);
        f.setBudget(1);
        runUntil(f, f.due(1) + 1);
        int[] worn = {5, 3, 2, 1, 1, 0};
        for (int what = 0; what <= 5; what++) {
            due("count(1, " + what + ") of the worn one", f.count(1, what), worn[what]);
        }
        due("backoff of the worn one", f.property(1, BACKOFF), 1);
        due("mark of the worn one", f.property(1, MARK), 5);
        due("close(1)", f.close(1), 0);
        due("open(0, 1)", f.open(0, 1), 1);
        for (int what = 0; what <= 5; what++) {
            due("count(1, " + what + ") of the new one", f.count(1, what), 0);
        }
        due("backoff of the new one", f.property(1, BACKOFF), 0);
        due("mark of the new one", f.property(1, MARK), 0);
        due("next of the new one", f.property(1, NEXT), 0);
        due("backlog of the new one", f.property(1, BACKLOG), 0);
        due("flight of the new one", f.property(1, FLIGHT), 0);
        due("samples of the new one", f.property(1, SAMPLES), 0);
    }

    private void childrenOfAClosedOne() {
        clause(OPENING, "When a connection is closed, its children become children of its parent.");
        ConnectionFamily f = new ConnectionFamily();
        Texts.load(f, "1(1(1 1(1)))");
        due("close() of one without children", f.close(2), 1);
        due("children of 1", f.child(1, 0), 3);
        due("close() of one with a child", f.close(1), 0);
        due("parent of 3", f.property(3, PARENT), 0);
        due("parent of 4", f.property(4, PARENT), 3);
        due("close() of the last but one", f.close(3), 0);
        due("parent of 4", f.property(4, PARENT), 0);
        properties("limits of the two that are left", f, LIMIT, 20, BAD, BAD, BAD, 20);
        f.close(4);
        properties("limit of the one that is left", f, LIMIT, 40, BAD, BAD, BAD, BAD);
    }

    /** The head has a credit of 1024, and half of it goes to its child. */
    private ConnectionFamily ofHalves() {
        ConnectionFamily f = onFastLink();
        deliver(f, 0, 542);
        due("credit before", f.property(0, CREDIT), 1024);
        f.open(0, 1);
        properties("halves", f, CREDIT, 512, 512);
        return f;
    }

    private void creditTo1024AtMost() {
        clause(OPENING, "The parent gets its credit (to 1024 at most)");
        ConnectionFamily f = ofHalves();
        f.close(1);
        due("512 and 512", f.property(0, CREDIT), 1024);
        f.undo();
        trips(f, 1, 1);
        properties("one more", f, CREDIT, 512, 513);
        f.close(1);
        due("512 and 513", f.property(0, CREDIT), 1024);
        ConnectionFamily g = ofHalves();
        g.open(1, 1);
        trips(g, 2, 1);
        properties("one of three", g, CREDIT, 512, 256, 272);
        g.close(2);
        properties("256 and 272", g, CREDIT, 512, 528);
        ConnectionFamily h = onFastLink();
        deliver(h, 0, 541);
        h.open(0, 1);
        properties("halves of 1023", h, CREDIT, 512, 511);
        h.close(1);
        due("512 and 511", h.property(0, CREDIT), 1023);
    }

    private void backlogTo9999AtMost() {
        clause(OPENING, "and its backlog (to 9999 at most)");
        int[][] backlogs = {{0, 0, 0}, {0, 9999, 9999}, {5000, 4998, 9998}, {5000, 4999, 9999}, {5000, 5000, 9999},
            {9999, 9999, 9999}};
        for (int[] one : backlogs) {
            ConnectionFamily f = new ConnectionFamily();
            f.open(0, 1);
            fillBacklog(f, 0, one[0]);
            fillBacklog(f, 1, one[1]);
            due("close(1)", f.close(1), 0);
            due("backlog of " + one[0] + " and " + one[1], f.property(0, BACKLOG), one[2]);
        }
    }

    private void theGreaterPenalty() {
        clause(OPENING, "and the greater one of both penalties.");
        for (int loser = 0; loser <= 1; loser++) {
            ConnectionFamily f = new ConnectionFamily();
            f.open(0, 1);
            sendWithDelay(f, loser, 30);
            f.run(9);
            f.setLink(2, 1);
            f.run(2);
            due("penalty of the one with the loss", f.property(loser, PENALTY), 4);
            due("penalty of the other", f.property(1 - loser, PENALTY), 2);
            f.close(1);
            due("the greater one", f.property(0, PENALTY), 4);
        }
        ConnectionFamily g = new ConnectionFamily();
        sendWithDelay(g, 0, 30);
        g.run(10);
        g.open(0, 1);
        g.close(1);
        due("equal ones", g.property(0, PENALTY), 4);
    }

    private void closedWithoutSamples() {
        clause(OPENING, "If the closed one has samples:");
        ConnectionFamily f = new ConnectionFamily();
        f.open(0, 1);
        f.close(1);
        due("S, if none has estimates", f.property(0, S), NONE);
        due("samples", f.property(0, SAMPLES), 0);
        trips(f, 0, 1);
        f.open(0, 1);
        f.close(1);
        due("S", f.property(0, S), 40);
        due("V, not that of the child", f.property(0, V), 10);
        due("samples", f.property(0, SAMPLES), 1);
        f.open(0, 1);
        f.open(1, 1);
        f.close(2);
        due("V of one with estimates but no samples", f.property(1, V), 20);
    }

    private void parentWithoutSamples() {
        clause(OPENING, "if the parent has none, the parent gets its S, V and number of samples;");
        ConnectionFamily f = new ConnectionFamily();
        f.open(0, 1);
        trips(f, 1, 3);
        due("V of the child", f.property(1, V), 6);
        f.close(1);
        due("S of a parent without estimates", f.property(0, S), 40);
        due("V of a parent without estimates", f.property(0, V), 6);
        due("samples of a parent without estimates", f.property(0, SAMPLES), 3);
        f.open(0, 1);
        f.open(1, 1);
        f.setLink(2, 2);
        trips(f, 2, 1);
        f.close(2);
        due("S of a parent with estimates but no samples", f.property(1, S), 16);
        due("V of a parent with estimates but no samples", f.property(1, V), 4);
        due("samples of a parent with estimates but no samples", f.property(1, SAMPLES), 1);
    }

    private void bothWithSamples() {
        clause(OPENING, "S becomes (m * S of the parent + n * S of the closed one) / (m + n), V likewise");
        ConnectionFamily f = new ConnectionFamily();
        f.open(0, 1);
        trips(f, 0, 1);
        f.setLink(2, 2);
        trips(f, 1, 2);
        // 1 sample with S 40 and V 10; 2 samples with S 16 and V 4 - 1
        f.close(1);
        due("S: 72 / 3", f.property(0, S), 24);
        due("V: (10 + 2 * 3) / 3", f.property(0, V), 5);
        due("samples", f.property(0, SAMPLES), 3);
    }

    private void samplesTo16AtMost() {
        clause(OPENING, "and the number of samples becomes m + n, but at most 16.");
        int[][] samples = {{7, 8, 15}, {8, 8, 16}, {8, 9, 16}, {1, 15, 16}, {1, 16, 16}, {16, 16, 16}};
        for (int[] one : samples) {
            ConnectionFamily f = onFastLink();
            f.open(0, 1);
            trips(f, 0, one[0]);
            f.setLink(2, 2);
            trips(f, 1, one[1]);
            due("samples before", f.property(1, SAMPLES), one[1]);
            int v = f.property(1, V);
            f.close(1);
            due("samples of " + one[0] + " and " + one[1], f.property(0, SAMPLES), one[2]);
            int sum = one[0] + one[1];
            due("S of " + one[0] + " and " + one[1], f.property(0, S), (one[0] * 8 + one[1] * 16) / sum);
            due("V of " + one[0] + " and " + one[1], f.property(0, V), (one[0] * 2 + one[1] * v) / sum);
        }
    }
}
