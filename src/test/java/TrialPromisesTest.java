/** Promises 23 to 27: what would be, undo() and digest(). */
final class TrialPromisesTest {
    private static final int BAD = -1, STATE = -2, FULL = -3, NONE = -9;
    private static final int LEAST = Integer.MIN_VALUE, MOST = Integer.MAX_VALUE;
    private static final Check CHECK = new Check();

    private TrialPromisesTest() {
    }

    public static void main(String[] args) {
        promise23IfBudget();
        promise23SmallerThanFlights();
        promise24BestBudget();
        promise25IfOpened();
        promise26Undo();
        promise26EveryActIsRemembered();
        promise26CloseIsRemembered();
        promise26ErrorsAreNot();
        promise27Digest();
        CHECK.end();
    }

    private static void due(String call, long got, long want) {
        CHECK.due(call, got, want);
    }

    private static ConnectionFamily busy() {
        ConnectionFamily f = new ConnectionFamily();
        Texts.load(f, "2(3(1)4)");
        f.setLink(0, 6);
        f.setLink(1, 1);
        for (int c = 0; c <= 3; c++) {
            f.give(c, 200);
        }
        f.run(37);
        return f;
    }

    private static void promise23IfBudget() {
        ConnectionFamily f = busy();
        int[][] wrong = {{0, 1}, {201, 1}, {1, 0}, {1, 61}, {-1, 1}, {LEAST, 1}, {1, MOST}};
        for (int[] one : wrong) {
            due("ifBudget(" + one[0] + ", " + one[1] + ")", f.ifBudget(one[0], one[1]), BAD);
        }
        for (int budget : new int[] {1, 2, 7, 30, 200}) {
            for (int ticks : new int[] {1, 13, 60}) {
                long before = f.digest();
                int would = f.ifBudget(budget, ticks);
                due("digest() after ifBudget()", f.digest(), before);
                ConnectionFamily g = busy();
                if (g.setBudget(budget) >= 0) {
                    due("ifBudget(" + budget + ", " + ticks + ")", would, g.run(ticks));
                }
            }
        }
        ConnectionFamily h = new ConnectionFamily();
        h.give(0, 2);
        due("ifBudget(1, 5)", h.ifBudget(1, 5), 0);
        due("ifBudget(1, 6)", h.ifBudget(1, 6), 1);
        due("ifBudget(1, 11)", h.ifBudget(1, 11), 2);
        due("ifBudget(2, 6)", h.ifBudget(2, 6), 2);
        due("ifBudget(2, 60)", h.ifBudget(2, 60), 2);
        due("told(11)", h.told(11), 1);
    }

    private static void promise23SmallerThanFlights() {
        ConnectionFamily f = new ConnectionFamily();
        f.give(0, 4);
        f.run(1);
        due("setBudget(1)", f.setBudget(1), STATE);
        due("ifBudget(1, 5): both in flight come back", f.ifBudget(1, 5), 2);
        due("ifBudget(1, 10): the third too", f.ifBudget(1, 10), 3);
        due("ifBudget(2, 10): the fourth too", f.ifBudget(2, 10), 4);
    }

    private static void promise24BestBudget() {
        ConnectionFamily f = new ConnectionFamily();
        due("bestBudget(0)", f.bestBudget(0), BAD);
        due("bestBudget(16)", f.bestBudget(16), BAD);
        due("bestBudget(-1)", f.bestBudget(-1), BAD);
        due("bestBudget(most)", f.bestBudget(MOST), BAD);
        due("the smallest of equal ones", f.bestBudget(15), 20);
        due("bestBudget(1)", f.bestBudget(1), 20);
        for (int budget = 20; budget <= 100; budget += 20) {
            ConnectionFamily g = ofWindow(budget / 10);
            long before = g.digest();
            due("a limit of a tenth should be the window", g.bestBudget(7), budget);
            due("digest() after bestBudget()", g.digest(), before);
            due("what it brings", g.ifBudget(budget, 7), budget / 10);
            due("what a smaller one brings", g.ifBudget(budget - 10, 7), budget / 10 - 1);
        }
    }

    /** Its connection 1 could have so many packets in flight, and gets a tenth of the budget. */
    private static ConnectionFamily ofWindow(int window) {
        ConnectionFamily f = new ConnectionFamily();
        f.setLink(1, 8);
        f.setLink(2, 1);
        for (int i = 0; i < 2 * window - 2; i++) {
            f.give(0, 1);
            f.run(2);
        }
        f.open(0, 1);
        f.setBudget(200);
        due("window", f.property(1, 6), window);
        f.setWeight(0, 9);
        f.setLink(2, 5);
        f.give(1, 100);
        return f;
    }

    private static void promise25IfOpened() {
        ConnectionFamily f = new ConnectionFamily();
        int[][] wrong = {{1, 1, 0}, {-1, 1, 0}, {10, 1, 0}, {0, 0, 0}, {0, 10, 0}, {0, 1, 1}, {0, 1, -1}, {0, 1, 10},
            {0, 1, -8}, {LEAST, 1, 0}, {0, MOST, 0}, {0, 1, MOST}};
        for (int[] one : wrong) {
            due("ifOpened(" + one[0] + ", " + one[1] + ", " + one[2] + ")", f.ifOpened(one[0], one[1], one[2]), BAD);
        }
        due("ifOpened(0, 3, NONE)", f.ifOpened(0, 3, NONE), 30);
        due("ifOpened(0, 3, 0)", f.ifOpened(0, 3, 0), 10);
        f.open(0, 1);
        long before = f.digest();
        due("ifOpened(1, 4, NONE)", f.ifOpened(1, 4, NONE), 16);
        due("ifOpened(1, 4, 1)", f.ifOpened(1, 4, 1), 4);
        due("ifOpened(1, 4, 0)", f.ifOpened(1, 4, 0), 20);
        due("ifOpened(1, 4, 2)", f.ifOpened(1, 4, 2), BAD);
        due("digest() after ifOpened()", f.digest(), before);
        for (int c = 2; c <= 9; c++) {
            due("ifOpened(" + (c - 1) + ", 9, NONE)", f.ifOpened(c - 1, 9, NONE), tried(f, c));
            f.open(c - 1, 9);
        }
        due("ifOpened() of an 11th", f.ifOpened(0, 1, 0), FULL);
        due("ifOpened() of an 11th of no weight", f.ifOpened(0, 0, 0), BAD);
        due("ifOpened() of an 11th, for none", f.ifOpened(0, 1, 10), BAD);
    }

    private static int tried(ConnectionFamily f, int c) {
        f.open(c - 1, 9);
        int limit = f.property(c, 3);
        f.undo();
        return limit;
    }

    private static void promise26Undo() {
        ConnectionFamily f = new ConnectionFamily();
        due("undo() of nothing", f.undo(), STATE);
        long[] before = new long[8];
        for (int i = 0; i < 8; i++) {
            before[i] = Prints.withoutHistory(f);
            f.give(0, i + 1);
        }
        due("told(11)", f.told(11), 5);
        for (int i = 7; i >= 3; i--) {
            due("undo()", f.undo(), i - 3);
            due("the state before act " + i, Prints.withoutHistory(f), before[i]);
        }
        due("undo() of a sixth", f.undo(), STATE);
        due("backlog", f.property(0, 8), 6);
        f.type(49);
        f.give(0, 1);
        f.type(50);
        due("undo()", f.undo(), 0);
        due("the text stays", f.told(12), 2);
        f.setLink(2, 12);
        f.give(0, 1);
        f.run(12);
        due("nothing is late", f.told(10), 0);
        f.run(1);
        due("both packets of tick 0 are late", f.told(10), 2);
        f.undo();
        due("nothing is late any more", f.told(10), 0);
        due("backoff", f.property(0, 10), 1);
        f.undo();
        due("backoff", f.property(0, 10), 0);
        due("timeouts", f.count(0, 4), 0);
        due("undo()", f.undo(), 1);
        due("undo()", f.undo(), 0);
        due("delay", f.told(4), 5);
    }

    private static void promise26EveryActIsRemembered() {
        for (int act = 0; act < 7; act++) {
            ConnectionFamily f = busy();
            long before = Prints.withoutHistory(f);
            String name = doAct(f, act);
            CHECK.holds(name + " changes something", Prints.withoutHistory(f) != before);
            due("undo() of " + name, f.undo(), 4);
            due("the state before " + name, Prints.withoutHistory(f), before);
            due("undo() of run", f.undo(), 3);
            due("the clock", f.told(0), 0);
        }
    }

    private static String doAct(ConnectionFamily f, int act) {
        switch (act) {
            case 0: Texts.load(f, "5(6)"); return "load";
            case 1: f.open(3, 2); return "open";
            case 2: f.give(2, 20); return "give";
            case 3: f.setWeight(1, 9); return "setWeight";
            case 4: f.setBudget(33); return "setBudget";
            case 5: f.setLink(1, 7); return "setLink";
            default: f.run(9); return "run";
        }
    }

    /** Those of a busy family have flights: a new one is closed, between a parent and a child. */
    private static void promise26CloseIsRemembered() {
        ConnectionFamily f = busy();
        int opened = f.open(3, 3);
        f.open(opened, 3);
        long before = Prints.withoutHistory(f);
        due("close()", f.close(opened), 3);
        CHECK.holds("close changes something", Prints.withoutHistory(f) != before);
        due("undo() of close", f.undo(), 4);
        due("the state before close", Prints.withoutHistory(f), before);
    }

    private static void promise26ErrorsAreNot() {
        ConnectionFamily f = busy();
        f.undo();
        f.undo();
        int remembered = f.told(11);
        long before = Prints.withoutHistory(f);
        f.open(9, 1);
        f.open(0, 0);
        f.close(0);
        f.give(0, 501);
        f.setWeight(0, 10);
        f.setBudget(0);
        f.setLink(0, 61);
        f.run(61);
        Texts.load(f, "1(");
        f.bestBudget(5);
        f.fairness();
        due("told(11)", f.told(11), remembered);
        due("the state", Prints.withoutHistory(f), before);
    }

    private static void promise27Digest() {
        due("digest() of a new object", new ConnectionFamily().digest(), byHand(new ConnectionFamily()));
        ConnectionFamily f = busy();
        for (int i = 0; i < 60 && f.queued(0) < 1; i++) {
            f.run(1);
        }
        due("digest() of a busy one", f.digest(), byHand(f));
        CHECK.holds("it has something in its queue", f.queued(0) > 0);
        f.close(3);
        f.open(0, 5);
        Texts.load(f, "1(2(0))");
        f.run(20);
        f.undo();
        due("digest() later", f.digest(), byHand(f));
        long before = f.digest();
        f.type(32);
        CHECK.holds("it tells of the text", f.digest() != before);
    }

    private static long byHand(ConnectionFamily f) {
        long h = 18506;
        for (int what = 0; what <= 12; what++) {
            h = 31 * h + f.told(what);
        }
        for (int c = 0; c <= 9; c++) {
            if (f.kin(c) == BAD) {
                continue;
            }
            h = 31 * h + c;
            for (int what = 0; what <= 16; what++) {
                h = 31 * h + f.property(c, what);
            }
            for (int what = 0; what <= 5; what++) {
                h = 31 * h + f.count(c, what);
            }
            h = 31 * h + f.kin(c);
            for (int i = 0; i < f.property(c, 7); i++) {
                h = 31 * h + f.inFlight(c, i, 0);
                h = 31 * h + f.inFlight(c, i, 1);
            }
        }
        for (int i = 0; i < f.told(7); i++) {
            h = 31 * h + f.queued(i);
        }
        h = 31 * h + f.fault();
        return 31 * h + f.fairness();
    }
}
