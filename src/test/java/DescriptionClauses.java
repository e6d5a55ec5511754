/** "What it is" and the description: the clauses that name no edge. */
final class DescriptionClauses extends ClauseGroup {
    DescriptionClauses(Check check, Doc doc) {
        super(check, doc);
    }

    @Override
    void all() {
        familiesShareABudget();
        openedOnesInheritAndClosedOnesGiveBack();
        lossesAreFeltByKin();
        whatTheClassDoes();
        someAreOpen();
        amountsAndLimits();
        theFlightIsASequence();
        theQueueIsServedInOrder();
        anAcknowledgedPacketLeaves();
        roundTripsAreCountedFromTheSending();
        theConnectionsSend();
        creditsAfterLosses();
        familiesAsTexts();
    }

    private void familiesShareABudget() {
        clause("What it is", "Families of connections that share a budget: a tree of connections over one link, each with a"
            + " weight, a credit, a limit that comes from the budget by weights, estimates of round trips, and a penalty.");
        ConnectionFamily f = new ConnectionFamily();
        Texts.load(f, "1(3(2)4)");
        f.setBudget(80);
        properties("tree", f, PARENT, NONE, 0, 1, 0);
        properties("tree", f, WEIGHT, 1, 3, 2, 4);
        // 32 * 3 / 4, then 24 * 2 / 5, then 8 * 4 / 5
        properties("tree", f, CREDIT, 2, 15, 9, 6);
        // 80 in parts of 1, 3 and 4 eighths; 30 in parts of 3 and 2 fifths
        properties("tree", f, LIMIT, 10, 18, 12, 40);
        properties("tree", f, S, NONE, NONE, NONE, NONE);
        properties("tree", f, PENALTY, 0, 0, 0, 0);
    }

    private void openedOnesInheritAndClosedOnesGiveBack() {
        clause("What it is", "A connection that is opened inherits part of its parent's credit, its estimates and its penalty;");
        ConnectionFamily f = afterATimeout();
        properties("before", f, CREDIT, 16);
        f.open(0, 1);
        properties("opened", f, CREDIT, 8, 8);
        properties("opened", f, S, 40, 40);
        properties("opened", f, V, 10, 20);
        properties("opened", f, PENALTY, 4, 4);
        clause("What it is", "one that is closed gives them back;");
        ConnectionFamily g = withAChild();
        due("close(1)", g.close(1), 0);
        properties("closed", g, CREDIT, 32);
        // one sample of each: (40 + 8) / 2 and (10 + 2) / 2
        properties("closed", g, S, 24);
        properties("closed", g, V, 6);
        properties("closed", g, SAMPLES, 2);
        properties("closed", g, PENALTY, 4);
    }

    private void lossesAreFeltByKin() {
        clause("What it is", "losses of one are felt by its kin.");
        ConnectionFamily f = new ConnectionFamily();
        Texts.load(f, "1(1(1(1))1)");
        f.setLink(2, 30);
        f.give(1, 1);
        f.run(11);
        properties("1 has a timeout at tick 10; 3 is no kin of it", f, PENALTY, 2, 4, 2, 0, 2);
    }

    private void whatTheClassDoes() {
        clause("What it is", "The class runs the family tick by tick over a link with a queue, finds losses by gaps and by"
            + " timeouts, reads whole families from texts, tells what another budget or another connection would bring,"
            + " and undoes acts.");
        ConnectionFamily f = afterAGap();
        due("gap losses", f.count(0, GAPS), 1);
        due("undo()", f.undo(), 2);
        due("gap losses after undo()", f.count(0, GAPS), 0);
        due("clock after undo()", f.told(CLOCK), 0);
        due("timeout losses", afterATimeout().count(0, TIMEOUTS), 1);
        ConnectionFamily g = new ConnectionFamily();
        due("load()", Texts.load(g, "2(3)"), 2);
        g.undo();
        g.give(0, 10);
        due("ifBudget(1, 6)", g.ifBudget(1, 6), 1);
        due("ifBudget(40, 6)", g.ifBudget(40, 6), 2);
        due("ifOpened(0, 1, NONE)", g.ifOpened(0, 1, NONE), 20);
    }

    private void someAreOpen() {
        clause("FAMILIES", "some of them are open.");
        ConnectionFamily f = new ConnectionFamily();
        f.open(0, 1);
        f.open(0, 1);
        f.close(1);
        due("open ones", f.told(OPEN), 2);
        due("kin(0)", f.kin(0), 4);
        due("kin(1)", f.kin(1), BAD);
        due("kin(2)", f.kin(2), 1);
        due("kin(3)", f.kin(3), BAD);
    }

    private void amountsAndLimits() {
        clause("FAMILIES", "Each open connection has an amount and a limit.");
        ConnectionFamily f = new ConnectionFamily();
        Texts.load(f, "1(1(1)1)");
        f.setBudget(4);
        // 4 in three parts, one left for the head; 1 in two parts, one left for connection 1
        properties("of 4", f, AMOUNT, 4, 1, 0, 1, BAD);
        properties("of 4", f, LIMIT, 2, 1, 0, 1, BAD);
        clause("FAMILIES", "The amount of the head is the budget.");
        for (int budget : new int[] {1, 39, 200}) {
            f.setBudget(budget);
            due("amount of the head", f.property(0, AMOUNT), budget);
        }
        clause("FAMILIES", "The amount A of a connection is divided between itself and its children:");
        Texts.load(f, "1(3(9)4)");
        for (int budget = 1; budget <= 200; budget++) {
            f.setBudget(budget);
            due("parts of the head", f.property(0, LIMIT) + f.property(1, AMOUNT) + f.property(3, AMOUNT), budget);
            due("parts of 1", f.property(1, LIMIT) + f.property(2, AMOUNT), f.property(1, AMOUNT));
        }
        clause("FAMILIES", "let W be the sum of its own weight and those of its children;");
        f.setBudget(80);
        // W is 8, and 12 for connection 1, where both remainders are 6
        properties("of 80", f, AMOUNT, 80, 30, 22, 40);
        properties("of 80", f, LIMIT, 10, 8, 22, 40);
    }

    private void theFlightIsASequence() {
        clause("STATE OF A CONNECTION", "The flight is the sequence of the packets that were sent and neither acknowledged"
            + " nor found lost, in the order in which they were sent;");
        ConnectionFamily f = new ConnectionFamily();
        f.give(0, 10);
        f.run(6);
        flight("0 and 1 are acknowledged at tick 5", f, 2, 5, 3, 5, 4, 5, 5, 5);
        f.run(5);
        flight("2 and 3 are acknowledged at tick 10", f, 4, 5, 5, 5, 6, 10, 7, 10, 8, 10, 9, 10);
        flight("1 is found lost, 0 and 2 are acknowledged", afterAGap(), 3, 5);
    }

    private void flight(String when, ConnectionFamily f, int... numbersAndTicks) {
        due(when + ": flight", f.property(0, FLIGHT), numbersAndTicks.length / 2);
        for (int i = 0; i < numbersAndTicks.length; i++) {
            due(when + ": inFlight(0, " + i / 2 + ", " + i % 2 + ")", f.inFlight(0, i / 2, i % 2), numbersAndTicks[i]);
        }
    }

    private void theQueueIsServedInOrder() {
        clause("THE LINK", "Packets in the queue are served in the order in which they came.");
        ConnectionFamily f = threeInLine();
        for (int served = 0; served < 3; served++) {
            due("served before tick " + served, f.count(served, ACKNOWLEDGED), 0);
            due("packets that wait", f.told(QUEUE), 2 - served);
            due("the first that waits", f.queued(0), served == 2 ? NONE : served + 1);
            due("run(1)", f.run(1), 1);
            due("acknowledged", f.count(served, ACKNOWLEDGED), 1);
        }
    }

    private void anAcknowledgedPacketLeaves() {
        clause("TICKS", "Then the packet itself leaves the flight; it is acknowledged.");
        ConnectionFamily f = new ConnectionFamily();
        f.give(0, 1);
        due("run(5)", f.run(5), 0);
        due("flight", f.property(0, FLIGHT), 1);
        due("acknowledged", f.count(0, ACKNOWLEDGED), 0);
        due("run(1)", f.run(1), 1);
        due("flight then", f.property(0, FLIGHT), 0);
        due("acknowledged then", f.count(0, ACKNOWLEDGED), 1);
        due("lost", f.count(0, LOST), 0);
        due("backlog", f.property(0, BACKLOG), 0);
    }

    private void roundTripsAreCountedFromTheSending() {
        clause("TICKS", "Let r be t minus the tick at which it was sent.");
        ConnectionFamily f = new ConnectionFamily();
        f.setLink(1, 1);
        f.run(3);
        f.give(0, 2);
        f.run(6);
        properties("r 5", f, S, 40);
        properties("r 5", f, V, 10);
        f.run(1);
        // the second one waited for a tick: d is 1
        properties("r 6", f, S, 41);
        properties("r 6", f, V, 9);
    }

    private void theConnectionsSend() {
        clause("TICKS", "The connections send:");
        ConnectionFamily f = threeInLine();
        properties("all have sent", f, NEXT, 1, 1, 1);
        clause("TICKS", "A packet that is sent takes the next number of its connection, leaves the backlog, and joins the flight;");
        ConnectionFamily g = new ConnectionFamily();
        g.give(0, 3);
        g.run(1);
        properties("two of three", g, NEXT, 2);
        properties("two of three", g, BACKLOG, 1);
        flight("two of three", g, 0, 0, 1, 0);
        due("sent", g.count(0, SENT), 2);
        g.run(5);
        properties("the third", g, NEXT, 3);
        properties("the third", g, BACKLOG, 0);
        flight("the third", g, 2, 5);
    }

    private void creditsAfterLosses() {
        clause("TICKS", "the credit becomes 16 times the threshold;");
        ConnectionFamily f = new ConnectionFamily();
        trips(f, 0, 8);
        properties("eight trips", f, CREDIT, 160);
        properties("eight trips", f, TIMEOUT, 8);
        f.setLink(0, 1);
        f.give(0, 2);
        f.run(1);
        due("the second one is dropped", f.count(0, DROPPED), 1);
        f.give(0, 1);
        f.run(5);
        properties("one more trip", f, CREDIT, 176);
        f.run(1);
        due("gap losses", f.count(0, GAPS), 1);
        properties("176 / 32", f, THRESHOLD, 5);
        properties("16 * 5", f, CREDIT, 80);
        clause("TICKS", "the credit becomes 16;");
        ConnectionFamily g = new ConnectionFamily();
        trips(g, 0, 8);
        g.setLink(2, 30);
        g.give(0, 1);
        g.run(8);
        properties("before the timeout", g, CREDIT, 160);
        g.run(1);
        due("timeout losses", g.count(0, TIMEOUTS), 1);
        properties("160 / 32", g, THRESHOLD, 5);
        properties("after the timeout", g, CREDIT, 16);
    }

    private void familiesAsTexts() {
        ConnectionFamily f = new ConnectionFamily();
        clause("TEXTS", "family     = connection");
        due("one", Texts.load(f, "1"), 1);
        due("two", Texts.load(f, "1 1"), -12);
        due("none", Texts.load(f, ""), -10);
        clause("TEXTS", "connection = weight [ \"(\" connection { connection } \")\" ]");
        due("a child", Texts.load(f, "1(2)"), 2);
        due("two children", Texts.load(f, "1(23)"), 3);
        due("children of children", Texts.load(f, "1(2(3)4(5)6)"), 6);
        due("no child in parentheses", Texts.load(f, "1()"), -12);
        due("no weight", Texts.load(f, "(1)"), -10);
        due("parentheses again", Texts.load(f, "1(2)(3)"), -14);
        clause("TEXTS", "The first connection is the head; those in parentheses are the children of the one before.");
        Texts.load(f, "7(2(3)4(5(6)))");
        properties("tree", f, WEIGHT, 7, 2, 3, 4, 5, 6);
        properties("tree", f, PARENT, NONE, 0, 1, 0, 3, 4);
    }
}
