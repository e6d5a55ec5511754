/** Promises 2 to 27: the clauses that name no edge. */
final class PromiseClauses extends ClauseGroup {
    PromiseClauses(Check check, Doc doc) {
        super(check, doc);
    }

    @Override
    void all() {
        bytesOfATextAndTheirNumber();
        loadOpensInTheOrderOfTheText();
        faultOfTheLatestLoad();
        openAndClose();
        giveAndSet();
        runSomeTicks();
        propertiesOfAConnection();
        countsSinceItWasOpened();
        numbersOfTheWhole();
        childrenAndKin();
        distances();
        packetsInFlightsAndQueue();
        dueOfAConnection();
        fairnessByLimits();
        limitsIfOpened();
        digestOfTheWhole();
    }

    private void bytesOfATextAndTheirNumber() {
        clause("Promise 2", "Appends a byte to the text buffer.");
        ConnectionFamily f = new ConnectionFamily();
        due("type('2')", f.type('2'), 1);
        due("type('(')", f.type('('), 2);
        due("type('3')", f.type('3'), 3);
        due("type(')')", f.type(')'), 4);
        due("load()", f.load(), 2);
        properties("2(3)", f, WEIGHT, 2, 3);
        clause("Promise 3", "Returns how many bytes it had.");
        due("clear()", f.clear(), 4);
        due("clear() of nothing", f.clear(), 0);
    }

    private void loadOpensInTheOrderOfTheText() {
        clause("Promise 4", "then the other connections are opened one after the other, in the order of the text.");
        ConnectionFamily f = new ConnectionFamily();
        due("load()", Texts.load(f, "2(3(1)4)"), 4);
        properties("tree", f, PARENT, NONE, 0, 1, 0);
        // 32 * 3 / 5, then 19 * 1 / 4, then 13 * 4 / 6
        properties("tree", f, CREDIT, 5, 15, 4, 8);
    }

    private void faultOfTheLatestLoad() {
        clause("Promise 5", "Returns the kind of the fault that the latest call of load() found.");
        ConnectionFamily f = new ConnectionFamily();
        String[] texts = {"x", "0", "1(1111111111)", "1(1(1(1(1(1)))))", "1", "2)"};
        int[] kinds = {1, 2, 3, 4, NONE, 1};
        for (int i = 0; i < texts.length; i++) {
            Texts.load(f, texts[i]);
            due("fault() of " + texts[i], f.fault(), kinds[i]);
        }
    }

    private void openAndClose() {
        clause("Promise 6", "Opens a connection. - `parent`: its parent");
        ConnectionFamily f = new ConnectionFamily();
        clause("Promise 6", "Returns its number;");
        due("open(0, 3)", f.open(0, 3), 1);
        due("open(1, 2)", f.open(1, 2), 2);
        due("open(2, 5)", f.open(2, 5), 3);
        due("open ones", f.told(OPEN), 4);
        properties("opened", f, PARENT, NONE, 0, 1, 2);
        properties("opened", f, WEIGHT, 1, 3, 2, 5);
        clause("Promise 7", "Closes a connection.");
        clause("Promise 7", "Returns its parent;");
        due("close(2)", f.close(2), 1);
        due("open ones", f.told(OPEN), 3);
        properties("closed", f, PARENT, NONE, 0, BAD, 1);
    }

    private void giveAndSet() {
        ConnectionFamily f = new ConnectionFamily();
        f.open(0, 3);
        clause("Promise 8", "Adds packets to a backlog. - `c`: the connection");
        clause("Promise 8", "Returns the backlog then;");
        due("give(1, 30)", f.give(1, 30), 30);
        due("give(1, 12)", f.give(1, 12), 42);
        due("give(0, 5)", f.give(0, 5), 5);
        properties("given", f, BACKLOG, 5, 42);
        clause("Promise 9", "Sets a weight. - `c`: the connection");
        clause("Promise 9", "Returns the weight before;");
        due("setWeight(1, 7)", f.setWeight(1, 7), 3);
        due("setWeight(0, 2)", f.setWeight(0, 2), 1);
        due("setWeight(1, 8)", f.setWeight(1, 8), 7);
        properties("set", f, WEIGHT, 2, 8);
        properties("set", f, LIMIT, 8, 32);
        clause("Promise 10", "Sets the budget.");
        clause("Promise 10", "Returns the budget before;");
        due("setBudget(20)", f.setBudget(20), 40);
        due("setBudget(200)", f.setBudget(200), 20);
        due("budget", f.told(BUDGET), 200);
        properties("of 200", f, LIMIT, 40, 160);
        clause("Promise 11", "Sets a property of the link.");
        int[] before = {20, 2, 5};
        for (int what = 0; what <= 2; what++) {
            due("setLink(" + what + ", 7)", f.setLink(what, 7), before[what]);
            due("setLink(" + what + ", 8)", f.setLink(what, 8), 7);
            due("told(" + (2 + what) + ")", f.told(CAPACITY + what), 8);
        }
    }

    private void runSomeTicks() {
        clause("Promise 12", "Runs some ticks.");
        ConnectionFamily f = new ConnectionFamily();
        f.run(5);
        due("clock", f.told(CLOCK), 5);
        f.run(60);
        due("clock then", f.told(CLOCK), 65);
    }

    private void propertiesOfAConnection() {
        clause("Promise 13", "Returns a property of a connection. - `c`: the connection");
        ConnectionFamily f = withAChild();
        int[] head = {NONE, 1, 40, 20, 8, 2, 1, 1, 0, 4, 1, 30, 40, 10, 1, 3, 2};
        int[] child = {0, 1, 20, 20, 24, 2, 1, 0, 0, 4, 0, 3, 8, 2, 1, 1, 0};
        for (int what = 0; what <= 16; what++) {
            properties("after a timeout", f, what, head[what], child[what]);
        }
    }

    private void countsSinceItWasOpened() {
        clause("Promise 14", "Returns a count of a connection since it was opened. - `c`: the connection");
        ConnectionFamily f = withAChild();
        int[] head = {3, 1, 1, 0, 1, 0};
        int[] child = {1, 1, 0, 0, 0, 0};
        for (int what = 0; what <= 5; what++) {
            due("count(0, " + what + ")", f.count(0, what), head[what]);
            due("count(1, " + what + ")", f.count(1, what), child[what]);
        }
        f.close(1);
        f.open(0, 1);
        for (int what = 0; what <= 5; what++) {
            due("count(1, " + what + ") of the next one", f.count(1, what), 0);
        }
    }

    private void numbersOfTheWhole() {
        clause("Promise 15", "Returns a number of the whole. - `what`: 0 the tick of the clock, 1 the budget, 2 the capacity of"
            + " the queue, 3 the rate, 4 the delay, 5 the open connections, 6 all flights together, 7 the packets in the"
            + " queue, 8 the acknowledgements on their way, 9 all credits together, 10 the acknowledgements that were late,"
            + " 11 the remembered states, 12 the bytes of the text buffer");
        toldAll("after a timeout", withAChild(), 24, 40, 20, 2, 1, 2, 1, 0, 2, 32, 0, 5, 0);
        toldAll("three in line", threeInLine(), 1, 40, 20, 1, 1, 3, 3, 2, 1, 32, 0, 5, 6);
        ConnectionFamily f = withAChild();
        f.run(13);
        due("the acknowledgement of 1 is late at tick 36", f.told(LATE), 1);
    }

    private void childrenAndKin() {
        ConnectionFamily f = new ConnectionFamily();
        Texts.load(f, "1(2(3)4)");
        clause("Promise 16", "Returns a child of a connection. - `c`: the connection");
        clause("Promise 16", "Returns the child;");
        due("child(0, 0)", f.child(0, 0), 1);
        due("child(0, 1)", f.child(0, 1), 3);
        due("child(1, 0)", f.child(1, 0), 2);
        due("child(3, 0)", f.child(3, 0), NONE);
        clause("Promise 17", "Returns the kin of a connection. - `c`: the connection");
        int[] kin = {1 << 1 | 1 << 3, 1 | 1 << 2 | 1 << 3, 1 << 1, 1 | 1 << 1};
        for (int c = 0; c <= 3; c++) {
            due("kin(" + c + ")", f.kin(c), kin[c]);
        }
    }

    private void distances() {
        clause("Promise 18", "Returns how far apart two connections are in the tree. - `c`: a connection - `d`: a connection"
            + " Returns the number of steps from one to the other, from parent to child or from child to parent;");
        ConnectionFamily f = new ConnectionFamily();
        Texts.load(f, "1(2(3)4(5(6)))");
        int[][] steps = {{0, 1, 2, 1, 2, 3}, {1, 0, 1, 2, 3, 4}, {2, 1, 0, 3, 4, 5}, {1, 2, 3, 0, 1, 2},
            {2, 3, 4, 1, 0, 1}, {3, 4, 5, 2, 1, 0}};
        for (int c = 0; c <= 5; c++) {
            for (int d = 0; d <= 5; d++) {
                due("distance(" + c + ", " + d + ")", f.distance(c, d), steps[c][d]);
            }
        }
    }

    private void packetsInFlightsAndQueue() {
        clause("Promise 19", "Returns a property of a packet in a flight. - `c`: the connection");
        clause("Promise 19", "0 for its number, 1 for the tick at which it was sent Returns the property;");
        ConnectionFamily f = withAChild();
        due("inFlight(0, 0, 0)", f.inFlight(0, 0, 0), 2);
        due("inFlight(0, 0, 1)", f.inFlight(0, 0, 1), 21);
        due("inFlight(1, 0, 0)", f.inFlight(1, 0, 0), NONE);
        clause("Promise 20", "Returns the connection of a packet in the queue of the link.");
        ConnectionFamily g = threeInLine();
        due("queued(0)", g.queued(0), 1);
        due("queued(1)", g.queued(1), 2);
        due("queued(2)", g.queued(2), NONE);
    }

    private void dueOfAConnection() {
        clause("Promise 21", "- `c`: the connection");
        ConnectionFamily f = withAChild();
        due("due(0): 21 + 30", f.due(0), 51);
        due("due(1)", f.due(1), NONE);
    }

    private void fairnessByLimits() {
        clause("Promise 22", "Returns the fairness of the open connections by their limits.");
        due("both have 1 of 20", withAChild().fairness(), 1000);
        clause("Promise 22", "Let n be the number of these connections, s the sum of all x, and q the sum of the squares of all x.");
        ConnectionFamily f = new ConnectionFamily();
        f.open(0, 3);
        trips(f, 0, 2);
        trips(f, 1, 1);
        properties("limits", f, LIMIT, 10, 30);
        // x is 12 and 2: 1000 * 196 / (2 * 148)
        due("fairness()", f.fairness(), 662);
    }

    private void limitsIfOpened() {
        clause("Promise 25", "Tells which limit a connection would have if another one was opened.");
        clause("Promise 25", "- `parent`: the parent of the other one");
        clause("Promise 25", "Returns the limit;");
        ConnectionFamily f = new ConnectionFamily();
        f.open(0, 3);
        // 40 in parts of 1, 3 and 4 eighths
        due("ifOpened(0, 4, NONE)", f.ifOpened(0, 4, NONE), 20);
        due("ifOpened(0, 4, 0)", f.ifOpened(0, 4, 0), 5);
        due("ifOpened(0, 4, 1)", f.ifOpened(0, 4, 1), 15);
        // 30 in parts of 3 and 2 fifths
        due("ifOpened(1, 2, NONE)", f.ifOpened(1, 2, NONE), 12);
        due("ifOpened(1, 2, 0)", f.ifOpened(1, 2, 0), 10);
        due("ifOpened(1, 2, 1)", f.ifOpened(1, 2, 1), 18);
    }

    private void digestOfTheWhole() {
        clause("Promise 27", "Computes a hash of the whole object.");
        clause("Promise 27", "queued(i) for each packet in the queue; fault(); fairness(). Returns h.");
        int[] values = {1, 40, 20, 1, 1, 3, 3, 2, 1, 32, 0, 5, 6,
            0, NONE, 1, 40, 14, 8, 32, 1, 1, 0, 0, 0, 10, NONE, NONE, 0, 1, 0, 1, 0, 0, 0, 0, 0, 6, 0, 0,
            1, 0, 1, 13, 13, 16, 32, 1, 1, 0, 0, 0, 10, NONE, NONE, 0, 1, 0, 1, 0, 0, 0, 0, 0, 5, 0, 0,
            2, 0, 1, 13, 13, 8, 32, 1, 1, 0, 0, 0, 10, NONE, NONE, 0, 1, 0, 1, 0, 0, 0, 0, 0, 3, 0, 0,
            1, 2, NONE, NONE};
        long h = 18506;
        for (int v : values) {
            h = 31 * h + v;
        }
        due("digest()", threeInLine().digest(), h);
    }
}
