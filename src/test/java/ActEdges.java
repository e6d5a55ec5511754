/** Promises 1 to 12: the range of each argument, what is answered at its edges, and what is refused beyond them. */
final class ActEdges extends ClauseGroup {
    ActEdges(Check check, Doc doc) {
        super(check, doc);
    }

    @Override
    void all() {
        newObject();
        typeOfBytes();
        typeWhenFull();
        clearOfAll();
        loadReturns();
        loadStartsAnew();
        loadLeavesTheRest();
        loadOfAFault();
        faultOfTheLatestLoad();
        openOfWeights();
        openOfParents();
        openWhenFull();
        closeOfNumbers();
        closeWithAFlight();
        giveOfPackets();
        giveWhenFull();
        setWeightOfWeights();
        setBudgetOfBudgets();
        setBudgetWithFlights();
        setLinkOfProperties();
        setLinkLeavesTheQueue();
        runOfTicks();
    }

    private void headAloneAsAtFirst(ConnectionFamily f, int weight) {
        int[] head = {NONE, weight, 40, 40, 32, 32, 2, 0, 0, 0, 0, 10, NONE, NONE, 0, 0, 0};
        for (int what = 0; what <= 16; what++) {
            due("property(0, " + what + ")", f.property(0, what), head[what]);
        }
        for (int what = 0; what <= 5; what++) {
            due("count(0, " + what + ")", f.count(0, what), 0);
        }
        for (int c = 1; c <= 9; c++) {
            due("kin(" + c + ")", f.kin(c), BAD);
        }
    }

    private void newObject() {
        clause("Promise 1", "Creates a family with its head only, with everything as it is at first, at tick 0, with an empty text buffer.");
        ConnectionFamily f = new ConnectionFamily();
        toldAll("new", f, 0, 40, 20, 2, 5, 1, 0, 0, 0, 32, 0, 0, 0);
        headAloneAsAtFirst(f, 1);
        due("kin(0)", f.kin(0), 0);
        due("queued(0)", f.queued(0), NONE);
        due("clear()", f.clear(), 0);
        due("load()", f.load(), -10);
    }

    private void typeOfBytes() {
        clause("Promise 2", "the byte, 32 to 126");
        ConnectionFamily f = new ConnectionFamily();
        due("type(32)", f.type(32), 1);
        due("type(126)", f.type(126), 2);
        clause("Promise 2", "Returns how many bytes it has then; BAD if c is out of range;");
        for (int c : new int[] {LEAST, -1, 0, 31, 127, 128, 255, 256 + 49, MOST}) {
            refused("type(" + c + ")", ClauseGroup::busy, g -> g.type(c), BAD);
            refused("type(" + c + ") when full", ClauseGroup::full, g -> g.type(c), BAD);
        }
    }

    private void typeWhenFull() {
        clause("Promise 2", "FULL if it has 60.");
        ConnectionFamily f = new ConnectionFamily();
        for (int n = 1; n <= 60; n++) {
            due("type(49)", f.type(49), n);
        }
        due("type(49) behind 60", f.type(49), FULL);
        due("type(32) behind 60", f.type(32), FULL);
        due("told(12)", f.told(BYTES), 60);
        refused("type(49)", ClauseGroup::full, g -> g.type(49), FULL);
        f.clear();
        due("type(49) after clear()", f.type(49), 1);
    }

    private void clearOfAll() {
        clause("Promise 3", "Empties the text buffer.");
        ConnectionFamily f = new ConnectionFamily();
        due("clear() of nothing", f.clear(), 0);
        f.type(49);
        due("clear() of 1", f.clear(), 1);
        due("clear() again", f.clear(), 0);
        due("told(12)", f.told(BYTES), 0);
        due("clear() of 60", full().clear(), 60);
        changesNothing("clear() of nothing", ClauseGroup::fresh, g -> g.clear());
    }

    private void loadReturns() {
        clause("Promise 4", "Returns the number of connections;");
        ConnectionFamily f = new ConnectionFamily();
        due("load() of one", Texts.load(f, "1"), 1);
        due("load() of ten", Texts.load(f, "1(123456789)"), 10);
        clause("Promise 4", "Reads the text buffer, which stays, as a family.");
        due("told(12)", f.told(BYTES), 12);
        due("load() again", f.load(), 10);
        clause("Promise 4", "-10 minus the position of the fault if there is one");
        due("load() of a fault at 0", Texts.load(f, "x"), -10);
        due("load() of a fault at 1", Texts.load(f, "1x"), -11);
        due("load() of a fault at 59", Texts.load(f, "1" + " ".repeat(58) + "x"), -69);
        due("load() of a fault at 60", Texts.load(f, " ".repeat(60)), -70);
    }

    /** A head that has had a gap loss at tick 10 and timeouts at ticks 18 and 44, and a late acknowledgement. */
    private ConnectionFamily ofAWornHead() {
        ConnectionFamily f = new ConnectionFamily();
        f.setLink(0, 1);
        f.give(0, 4);
        runUntil(f, 18);
        f.setLink(2, 30);
        runUntil(f, 49);
        int[] counts = {6, 2, 3, 1, 2, 2};
        for (int what = 0; what <= 5; what++) {
            due("count(0, " + what + ") of a worn head", f.count(0, what), counts[what]);
        }
        due("backoff", f.property(0, BACKOFF), 2);
        due("mark", f.property(0, MARK), 5);
        due("penalty is above 0", f.property(0, PENALTY) > 0 ? 1 : 0, 1);
        due("told(10)", f.told(LATE), 1);
        due("told(8)", f.told(ON_WAY), 1);
        return f;
    }

    private void loadStartsAnew() {
        clause("Promise 4", "The head is as at first, with its weight, the clock is at tick 0, nothing is on the link");
        startsAnew(busy());
        startsAnew(ofAWornHead());
    }

    private void startsAnew(ConnectionFamily f) {
        due("load()", Texts.load(f, "9"), 1);
        due("told(0)", f.told(CLOCK), 0);
        headAloneAsAtFirst(f, 9);
        clause("Promise 4", "(neither in its queue nor as an acknowledgement on its way), and no acknowledgement has been late;");
        due("told(6)", f.told(FLIGHTS), 0);
        due("told(7)", f.told(QUEUE), 0);
        due("told(8)", f.told(ON_WAY), 0);
        due("told(10)", f.told(LATE), 0);
        due("run(60)", f.run(60), 0);
        due("told(10) later", f.told(LATE), 0);
    }

    private void loadLeavesTheRest() {
        clause("Promise 4", "The budget and the properties of the link stay.");
        ConnectionFamily f = new ConnectionFamily();
        f.setBudget(200);
        f.setLink(0, 60);
        f.setLink(1, 8);
        f.setLink(2, 30);
        Texts.load(f, "1(9)");
        toldAll("after load()", f, 0, 200, 60, 8, 30, 2, 0, 0, 0, 32, 0, 5, 4);
        properties("limits by the budget", f, LIMIT, 20, 180);
        f.setBudget(1);
        f.setLink(0, 1);
        f.setLink(1, 1);
        f.setLink(2, 1);
        Texts.load(f, "9(1)");
        toldAll("after load()", f, 0, 1, 1, 1, 1, 2, 0, 0, 0, 32, 0, 5, 4);
        properties("limits by the budget", f, LIMIT, 1, 0);
    }

    private void loadOfAFault() {
        clause("Promise 4", "(then nothing changes but what fault() tells).");
        for (String text : new String[] {"", "0", "1(1234567891)", "1(1(1(1(1(1)))))", "2(3(1)4"}) {
            ConnectionFamily f = busy();
            f.clear();
            long before = Prints.withoutHistory(f);
            due("load() of '" + text + "'", Texts.load(f, text) <= -10 ? 1 : 0, 1);
            due("state after '" + text + "'", Prints.withoutHistory(f), before);
            due("told(11) after '" + text + "'", f.told(REMEMBERED), 5);
            due("told(12) after '" + text + "'", f.told(BYTES), text.length());
        }
        refused("load() of the same fault again", ClauseGroup::busy, f -> f.load(), -12);
    }

    private void faultOfTheLatestLoad() {
        clause("Promise 5", "Returns 1 to 4; NONE if it found none, or there was no such call.");
        ConnectionFamily f = new ConnectionFamily();
        due("fault() without load()", f.fault(), NONE);
        String[] texts = {"", "0", "1(1234567891)", "1(1(1(1(1(1)))))", "1"};
        int[] kinds = {1, 2, 3, 4, NONE};
        for (int i = 0; i < texts.length; i++) {
            Texts.load(f, texts[i]);
            due("fault() of '" + texts[i] + "'", f.fault(), kinds[i]);
        }
        Texts.load(f, "0");
        f.clear();
        f.type('1');
        due("fault() of the latest load(), not of the text", f.fault(), 2);
        changesNothing("fault()", ClauseGroup::busy, g -> g.fault());
    }

    private void openOfWeights() {
        clause("Promise 6", "its weight, 1 to 9");
        due("open(0, 1)", fresh().open(0, 1), 1);
        due("open(0, 9)", fresh().open(0, 9), 1);
        clause("Promise 6", "BAD if parent is not open or weight is out of range;");
        for (int weight : new int[] {LEAST, -1, 0, 10, MOST}) {
            refused("open(0, " + weight + ")", ClauseGroup::busy, f -> f.open(0, weight), BAD);
            refused("open(0, " + weight + ") when full", ClauseGroup::full, f -> f.open(0, weight), BAD);
        }
    }

    private void openOfParents() {
        clause("Promise 6", "BAD if parent is not open");
        for (int parent : new int[] {LEAST, -9, -1, 4, 9, 10, MOST}) {
            refused("open(" + parent + ", 1)", ClauseGroup::busy, f -> f.open(parent, 1), BAD);
        }
        due("open(3, 1)", busy().open(3, 1), 4);
        ConnectionFamily f = ofTen();
        f.close(5);
        due("open(5, 1) of one that was closed", f.open(5, 1), BAD);
        due("open(9, 1)", f.open(9, 1), 5);
    }

    private void openWhenFull() {
        clause("Promise 6", "FULL if all 10 connections are open.");
        ConnectionFamily f = new ConnectionFamily();
        for (int c = 1; c <= 9; c++) {
            due("open(0, 1)", f.open(0, 1), c);
        }
        due("open(0, 1)", f.open(0, 1), FULL);
        refused("open(0, 1)", ClauseGroup::full, g -> g.open(0, 1), FULL);
        refused("open(9, 9)", ClauseGroup::full, g -> g.open(9, 9), FULL);
    }

    private void closeOfNumbers() {
        clause("Promise 7", "the connection, 1 to 9");
        due("close(1)", ofTen().close(1), 0);
        due("close(9)", ofTen().close(9), 0);
        clause("Promise 7", "BAD if c is out of range or not open;");
        for (int c : new int[] {LEAST, -9, -1, 0, 4, 9, 10, MOST}) {
            refused("close(" + c + ")", ClauseGroup::busy, f -> f.close(c), BAD);
        }
        ConnectionFamily f = ofTen();
        f.close(5);
        due("close(5) again", f.close(5), BAD);
    }

    private void closeWithAFlight() {
        clause("Promise 7", "STATE if its flight is not empty.");
        Maker oneInFlight = () -> {
            ConnectionFamily f = new ConnectionFamily();
            f.open(0, 1);
            f.give(1, 1);
            f.run(5);
            return f;
        };
        due("flight", oneInFlight.make().property(1, FLIGHT), 1);
        refused("close(1) with one packet in flight", oneInFlight, f -> f.close(1), STATE);
        ConnectionFamily f = oneInFlight.make();
        f.run(1);
        due("close(1) without a flight", f.close(1), 0);
        ConnectionFamily g = oneInFlight.make();
        g.give(0, 1);
        g.run(1);
        due("flight of the parent", g.property(0, FLIGHT), 1);
        due("close(1), its parent having a flight", g.close(1), 0);
        ConnectionFamily h = new ConnectionFamily();
        h.open(0, 1);
        h.give(1, 500);
        due("close(1) with a backlog", h.close(1), 0);
    }

    private void giveOfPackets() {
        clause("Promise 8", "how many, 1 to 500");
        ConnectionFamily f = new ConnectionFamily();
        due("give(0, 1)", f.give(0, 1), 1);
        due("give(0, 500)", f.give(0, 500), 501);
        clause("Promise 8", "BAD if c is not open or n is out of range;");
        for (int n : new int[] {LEAST, -1, 0, 501, MOST}) {
            refused("give(0, " + n + ")", ClauseGroup::busy, g -> g.give(0, n), BAD);
            refused("give(0, " + n + ") when full", ClauseGroup::full, g -> g.give(0, n), BAD);
        }
        for (int c : new int[] {LEAST, -1, 4, 9, 10, MOST}) {
            refused("give(" + c + ", 1)", ClauseGroup::busy, g -> g.give(c, 1), BAD);
        }
    }

    private void giveWhenFull() {
        clause("Promise 8", "FULL if it would be above 9999.");
        int[][] backlogAndN = {{9499, 500, 9999}, {9500, 500, FULL}, {9998, 1, 9999}, {9998, 2, FULL}, {9999, 1, FULL},
            {9999, 500, FULL}};
        for (int[] one : backlogAndN) {
            Maker maker = () -> {
                ConnectionFamily f = new ConnectionFamily();
                fillBacklog(f, 0, one[0]);
                return f;
            };
            due("give(0, " + one[1] + ") at " + one[0], maker.make().give(0, one[1]), one[2]);
            if (one[2] == FULL) {
                refused("give(0, " + one[1] + ") at " + one[0], maker, f -> f.give(0, one[1]), FULL);
            }
        }
        due("give(1, 1), the head being full", full().give(1, 1), 1);
    }

    private void setWeightOfWeights() {
        clause("Promise 9", "the new weight, 1 to 9");
        ConnectionFamily f = ofTen();
        due("setWeight(9, 9)", f.setWeight(9, 9), 1);
        due("setWeight(9, 1)", f.setWeight(9, 1), 9);
        due("setWeight(0, 9)", f.setWeight(0, 9), 1);
        due("weight of the head", f.property(0, WEIGHT), 9);
        clause("Promise 9", "BAD if c is not open or weight is out of range.");
        for (int weight : new int[] {LEAST, -1, 0, 10, MOST}) {
            refused("setWeight(0, " + weight + ")", ClauseGroup::busy, g -> g.setWeight(0, weight), BAD);
        }
        for (int c : new int[] {LEAST, -1, 4, 9, 10, MOST}) {
            refused("setWeight(" + c + ", 5)", ClauseGroup::busy, g -> g.setWeight(c, 5), BAD);
        }
    }

    private void setBudgetOfBudgets() {
        clause("Promise 10", "the new budget, 1 to 200");
        ConnectionFamily f = new ConnectionFamily();
        due("setBudget(1)", f.setBudget(1), 40);
        due("setBudget(200)", f.setBudget(200), 1);
        due("setBudget(200)", f.setBudget(200), 200);
        clause("Promise 10", "BAD if b is out of range;");
        for (int b : new int[] {LEAST, -1, 0, 201, MOST}) {
            refused("setBudget(" + b + ")", ClauseGroup::fresh, g -> g.setBudget(b), BAD);
            refused("setBudget(" + b + ") with flights", ClauseGroup::busy, g -> g.setBudget(b), BAD);
        }
    }

    private void setBudgetWithFlights() {
        clause("Promise 10", "STATE if all flights together are greater than b.");
        Maker twoAndOne = () -> {
            ConnectionFamily f = new ConnectionFamily();
            trips(f, 0, 2);
            f.open(0, 1);
            f.give(0, 2);
            f.give(1, 1);
            f.run(1);
            return f;
        };
        properties("flights", twoAndOne.make(), FLIGHT, 2, 1);
        refused("setBudget(1) with 3 in flight", twoAndOne, f -> f.setBudget(1), STATE);
        refused("setBudget(2) with 3 in flight", twoAndOne, f -> f.setBudget(2), STATE);
        due("setBudget(3) with 3 in flight", twoAndOne.make().setBudget(3), 40);
        due("setBudget(4) with 3 in flight", twoAndOne.make().setBudget(4), 40);
    }

    private void setLinkOfProperties() {
        clause("Promise 11", "0 for the capacity of the queue, 1 for the rate, 2 for the delay");
        int[] most = {60, 8, 30};
        int[] first = {20, 2, 5};
        for (int what = 0; what <= 2; what++) {
            ConnectionFamily f = new ConnectionFamily();
            due("setLink(" + what + ", most)", f.setLink(what, most[what]), first[what]);
            due("setLink(" + what + ", 1)", f.setLink(what, 1), most[what]);
            for (int other = 0; other <= 2; other++) {
                due("told(" + (other + 2) + ")", f.told(other + 2), other == what ? 1 : first[other]);
            }
        }
        clause("Promise 11", "the new value, in its range");
        for (int what = 0; what <= 2; what++) {
            int property = what;
            for (int v : new int[] {LEAST, -1, 0, most[what] + 1, MOST}) {
                refused("setLink(" + what + ", " + v + ")", ClauseGroup::busy, f -> f.setLink(property, v), BAD);
            }
        }
        clause("Promise 11", "Returns the value before; BAD if an argument is out of range.");
        for (int what : new int[] {LEAST, -1, 3, MOST}) {
            refused("setLink(" + what + ", 1)", ClauseGroup::busy, f -> f.setLink(what, 1), BAD);
        }
    }

    private void setLinkLeavesTheQueue() {
        clause("Promise 11", "(Packets that are in the queue stay there, also if there are more of them than the new capacity.)");
        ConnectionFamily f = ofTen();
        f.setLink(1, 1);
        for (int c = 0; c <= 9; c++) {
            f.give(c, 1);
        }
        f.run(1);
        due("queue", f.told(QUEUE), 9);
        f.setLink(0, 1);
        due("queue above the capacity", f.told(QUEUE), 9);
        for (int i = 0; i < 9; i++) {
            due("queued(" + i + ")", f.queued(i), i + 1);
        }
        f.run(1);
        due("queue after a tick", f.told(QUEUE), 8);
        f.run(8);
        due("queue after all", f.told(QUEUE), 0);
        for (int c = 0; c <= 9; c++) {
            due("dropped of " + c, f.count(c, DROPPED), 0);
        }
    }

    private void runOfTicks() {
        clause("Promise 12", "the number of ticks, 1 to 60");
        ConnectionFamily f = new ConnectionFamily();
        f.run(1);
        due("told(0) after run(1)", f.told(CLOCK), 1);
        f.run(60);
        due("told(0) after run(60)", f.told(CLOCK), 61);
        clause("Promise 12", "Returns how many packets were acknowledged in them; BAD if ticks is out of range.");
        due("run(60) of nothing", f.run(60), 0);
        f.give(0, 1);
        due("run(5)", f.run(5), 0);
        due("run(1) in which one comes", f.run(1), 1);
        for (int ticks : new int[] {LEAST, -1, 0, 61, MOST}) {
            refused("run(" + ticks + ")", ClauseGroup::busy, g -> g.run(ticks), BAD);
        }
    }
}
