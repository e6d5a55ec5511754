/** HISTORY, and the 512 calls for which an object is used. */
final class HistoryEdges extends ClauseGroup {
    HistoryEdges(Check check, Doc doc) {
        super(check, doc);
    }

    @Override
    void all() {
        eachActRecordsOnce();
        otherCallsRecordNothing();
        everythingButTheTextBuffer();
        atMost5();
        theOldestIsDropped();
        theLatestIsRestoredAndRemoved();
        recordedAgainAfterUndo();
        for512Calls();
    }

    private static final Call[] ACTS = {f -> Texts.load(f, "5(6)"), f -> f.open(3, 2), f -> f.close(4),
        f -> f.give(2, 20), f -> f.setWeight(1, 9), f -> f.setBudget(33), f -> f.setLink(1, 7), f -> f.run(9)};
    private static final String[] NAMES = {"load()", "open()", "close()", "give()", "setWeight()", "setBudget()",
        "setLink()", "run()"};

    /** As the busy one, with a connection 4 that can be closed, and so many remembered states. */
    private static ConnectionFamily remembering(int states) {
        ConnectionFamily f = new ConnectionFamily();
        Texts.load(f, "2(3(1)4(7))");
        f.setLink(1, 1);
        for (int c = 0; c <= 3; c++) {
            f.give(c, 200);
        }
        f.run(37);
        while (f.told(REMEMBERED) > states) {
            f.undo();
        }
        return f;
    }

    private void eachActRecordsOnce() {
        clause("HISTORY", "Each successful call of load(), open(), close(), give(), setWeight(), setBudget(), setLink() and run()");
        for (int i = 0; i < ACTS.length; i++) {
            for (int states = 0; states <= 5; states++) {
                ConnectionFamily f = remembering(states);
                long before = Prints.withoutHistory(f);
                due(NAMES[i] + " succeeds", ACTS[i].on(f) >= 0 ? 1 : 0, 1);
                due("remembered after " + NAMES[i] + " at " + states, f.told(REMEMBERED), Math.min(5, states + 1));
                due("something is another after " + NAMES[i], Prints.withoutHistory(f) != before ? 1 : 0, 1);
                due("undo() of " + NAMES[i], f.undo(), Math.min(4, states));
                due("state after undo() of " + NAMES[i], Prints.withoutHistory(f), before);
            }
        }
        ConnectionFamily g = new ConnectionFamily();
        g.setBudget(40);
        g.setWeight(0, 1);
        g.setLink(0, 20);
        due("remembered, though nothing became another", g.told(REMEMBERED), 3);
    }

    private void otherCallsRecordNothing() {
        clause("HISTORY", "records the state (everything but the recorded states and the text buffer) before it.");
        Call[] others = {f -> f.type('1'), f -> f.clear(), f -> f.fault(), f -> f.property(0, 4), f -> f.count(0, 1),
            f -> f.told(0), f -> f.child(0, 0), f -> f.kin(0), f -> f.distance(0, 1), f -> f.inFlight(0, 0, 0),
            f -> f.queued(0), f -> f.due(0), f -> f.fairness(), f -> f.ifBudget(3, 60), f -> f.bestBudget(15),
            f -> f.ifOpened(0, 1, NONE), f -> f.digest()};
        for (int i = 0; i < others.length; i++) {
            ConnectionFamily f = remembering(3);
            others[i].on(f);
            due("remembered after call " + i, f.told(REMEMBERED), 3);
        }
        Call[] refused = {f -> f.load(), f -> f.open(0, 0), f -> f.close(0), f -> f.give(0, 0), f -> f.setWeight(0, 0),
            f -> f.setBudget(0), f -> f.setLink(0, 0), f -> f.run(0)};
        for (int i = 0; i < refused.length; i++) {
            ConnectionFamily f = remembering(3);
            f.clear();
            due("refused " + NAMES[i], refused[i].on(f) < 0 ? 1 : 0, 1);
            due("remembered after a refused " + NAMES[i], f.told(REMEMBERED), 3);
        }
    }

    private void everythingButTheTextBuffer() {
        clause("HISTORY", "(everything but the recorded states and the text buffer)");
        ConnectionFamily f = new ConnectionFamily();
        f.type('7');
        f.give(0, 1);
        f.type('(');
        due("load() of '7('", f.load(), -12);
        due("undo()", f.undo(), 0);
        due("told(12)", f.told(BYTES), 2);
        due("fault()", f.fault(), 1);
        f.clear();
        f.type('8');
        due("load() of '8'", f.load(), 1);
        f.type(')');
        due("undo() of load()", f.undo(), 0);
        due("weight", f.property(0, WEIGHT), 1);
        due("the text is not that of before load()", f.load(), -11);
        ConnectionFamily g = busy();
        long before = Prints.withoutHistory(g);
        g.setLink(2, 1);
        g.run(60);
        g.setBudget(200);
        g.open(3, 9);
        g.give(4, 9);
        for (int i = 0; i < 5; i++) {
            g.undo();
        }
        due("the link, the clock, the late ones, all of it", Prints.withoutHistory(g), before);
        ConnectionFamily h = new ConnectionFamily();
        sendWithDelay(h, 0, 12);
        h.run(12);
        due("late", h.told(LATE), 1);
        h.undo();
        due("not late any more", h.told(LATE), 0);
        due("the clock", h.told(CLOCK), 1);
        ConnectionFamily t = new ConnectionFamily();
        Texts.load(t, "1(1(1 1))");
        t.close(1);
        properties("parents after close(1)", t, PARENT, NONE, BAD, 0, 0);
        t.undo();
        properties("parents after undo()", t, PARENT, NONE, 0, 1, 1);
    }

    private void atMost5() {
        clause("HISTORY", "At most 5 recorded states are remembered:");
        ConnectionFamily f = new ConnectionFamily();
        for (int n = 1; n <= 12; n++) {
            f.give(0, n);
            due("remembered after " + n + " acts", f.told(REMEMBERED), Math.min(5, n));
        }
        for (int left = 4; left >= 0; left--) {
            due("undo()", f.undo(), left);
        }
        due("a sixth undo()", f.undo(), STATE);
    }

    private void theOldestIsDropped() {
        clause("HISTORY", "when one more is recorded, the oldest one is dropped;");
        for (int acts = 1; acts <= 12; acts++) {
            ConnectionFamily f = new ConnectionFamily();
            for (int n = 1; n <= acts; n++) {
                f.give(0, 1);
            }
            for (int n = acts - 1; n >= 0 && n >= acts - 5; n--) {
                f.undo();
                due("backlog before act " + (n + 1) + " of " + acts, f.property(0, BACKLOG), n);
            }
            due("no older one", f.undo(), STATE);
            due("backlog", f.property(0, BACKLOG), Math.max(0, acts - 5));
        }
    }

    private void theLatestIsRestoredAndRemoved() {
        clause("HISTORY", "undo() restores the latest one and removes it.");
        ConnectionFamily f = new ConnectionFamily();
        f.setBudget(50);
        f.setBudget(60);
        due("undo()", f.undo(), 1);
        due("budget", f.told(BUDGET), 50);
        due("undo()", f.undo(), 0);
        due("budget", f.told(BUDGET), 40);
        refused("undo() of nothing more", () -> {
            ConnectionFamily g = new ConnectionFamily();
            g.setBudget(50);
            g.undo();
            return g;
        }, g -> g.undo(), STATE);
    }

    private void recordedAgainAfterUndo() {
        clause("HISTORY", "when one more is recorded, the oldest one is dropped; undo() restores the latest one");
        ConnectionFamily f = new ConnectionFamily();
        for (int n = 1; n <= 7; n++) {
            f.give(0, 1);
        }
        f.undo();
        f.undo();
        for (int n = 1; n <= 3; n++) {
            f.give(0, 10);
        }
        int[] backlogs = {25, 15, 5, 4, 3};
        for (int i = 0; i < backlogs.length; i++) {
            due("undo()", f.undo(), 4 - i);
            due("backlog", f.property(0, BACKLOG), backlogs[i]);
        }
        due("undo() of nothing", f.undo(), STATE);
    }

    /** The model of the document answers the 512th call as the class does. */
    private void for512Calls() {
        clause("What it is", "An object is used for at most 512 calls after it has been made;");
        ConnectionFamily f = new ConnectionFamily();
        Model m = new Model();
        for (int call = 1; call <= 510; call += 2) {
            due("give() as call " + call, f.give(0, 39), m.give(0, 39));
            due("run() as call " + (call + 1), f.run(call % 60 + 1), m.run(call % 60 + 1));
        }
        due("open() as call 511", f.open(0, 5), m.open(0, 5));
        due("digest() as call 512", f.digest(), m.digest());
    }
}
