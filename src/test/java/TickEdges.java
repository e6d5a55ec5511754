/** TICKS: acknowledgements, estimates, the growth of credits, sending and serving. */
final class TickEdges extends ClauseGroup {
    TickEdges(Check check, Doc doc) {
        super(check, doc);
    }

    @Override
    void all() {
        clockAtFirst();
        orderOfService();
        lateIfNotInFlight();
        lateIfClosed();
        nothingBeforeIt();
        backlogOfFoundLostIs9999AtMost();
        firstSampleAndLaterOnes();
        samplesAre16AtMost();
        creditGrowsBelowTheThreshold();
        creditGrowsByAtLeast1();
        creditGrowsTo1024AtMost();
        noGrowthAfterALoss();
        sendingBeginsWithTheTick();
        sendingGoesRound();
        sendingIsRepeated();
        sendingNeedsABacklog();
        sendingNeedsAWindow();
        sendingNeedsABudget();
        aFullQueueDrops();
        anOverfullQueueDrops();
        servesAsFarAsThereAreAny();
        asManyOnTheirWayAsCanBe();
        penaltiesBecomeLess();
    }

    private void clockAtFirst() {
        clause("TICKS", "The clock is at tick 0 at first.");
        ConnectionFamily f = new ConnectionFamily();
        due("told(0)", f.told(CLOCK), 0);
        f.give(0, 1);
        f.run(1);
        due("the first tick is 0", f.inFlight(0, 0, 1), 0);
        clause("TICKS", "Then the clock becomes t + 1.");
        due("told(0) after a tick", f.told(CLOCK), 1);
        f.run(60);
        due("told(0) after 60 more", f.told(CLOCK), 61);
    }

    private void orderOfService() {
        clause("TICKS", "The acknowledgements that are due at t come, in the order in which their packets were served.");
        ConnectionFamily f = new ConnectionFamily();
        sendWithDelay(f, 0, 4);
        sendWithDelay(f, 0, 3);
        due("none before tick 4", f.run(2), 0);
        due("both at tick 4", f.run(1), 2);
        due("the first one was not overtaken", f.count(0, LOST), 0);
        ConnectionFamily g = new ConnectionFamily();
        sendWithDelay(g, 0, 5);
        sendWithDelay(g, 0, 3);
        due("the second one at tick 4", g.run(3), 1);
        due("the first one was overtaken", g.count(0, LOST), 1);
    }

    private void lateIfNotInFlight() {
        clause("TICKS", "If the packet is not in the flight of its connection any more");
        ConnectionFamily f = new ConnectionFamily();
        sendWithDelay(f, 0, 12);
        f.run(11);
        due("timeouts at tick 10", f.count(0, TIMEOUTS), 1);
        due("told(10) before tick 12", f.told(LATE), 0);
        due("run(1)", f.run(1), 0);
        due("told(10) after tick 12", f.told(LATE), 1);
        due("acknowledged", f.count(0, ACKNOWLEDGED), 0);
        due("credit", f.property(0, CREDIT), 16);
        due("samples", f.property(0, SAMPLES), 0);
        due("S", f.property(0, S), NONE);
        due("backoff", f.property(0, BACKOFF), 1);
        due("flight", f.inFlight(0, 0, 0), 1);
        due("run(9)", f.run(9), 0);
        due("the second try at tick 22", f.run(1), 1);
        due("told(10)", f.told(LATE), 1);
        due("S by 12 ticks", f.property(0, S), 96);
    }

    private void lateIfClosed() {
        clause("TICKS", "(or this connection has been closed since), the acknowledgement is late, and nothing else happens.");
        for (int reopened = 0; reopened <= 1; reopened++) {
            ConnectionFamily f = new ConnectionFamily();
            f.open(0, 1);
            sendWithDelay(f, 1, 13);
            f.setLink(2, 1);
            f.run(11);
            // lost at tick 10, sent again, acknowledged at tick 11; the acknowledgement of the first try is on its way
            due("flight", f.property(1, FLIGHT), 0);
            due("told(8)", f.told(ON_WAY), 1);
            f.close(1);
            if (reopened == 1) {
                due("open(0, 1)", f.open(0, 1), 1);
                sendWithDelay(f, 1, 30);
                due("a packet of the same number", f.inFlight(1, 0, 0), 0);
            } else {
                f.run(1);
            }
            due("told(10) before tick 13", f.told(LATE), 0);
            int credits = f.told(CREDITS);
            due("run(1)", f.run(1), 0);
            due("told(10) after tick 13", f.told(LATE), 1);
            due("credits", f.told(CREDITS), credits);
            due("flights", f.told(FLIGHTS), reopened);
        }
    }

    /** Of the two packets of tick 0 the queue has dropped 1, and of those of tick 5, after 0 came, it has dropped 3. */
    private static ConnectionFamily beforeAGap() {
        ConnectionFamily f = new ConnectionFamily();
        f.setLink(0, 1);
        f.give(0, 4);
        f.run(10);
        return f;
    }

    private void nothingBeforeIt() {
        clause("TICKS", "if there are packets before it in the flight, they are found lost");
        ConnectionFamily f = beforeAGap();
        due("the first one had none before it", f.count(0, ACKNOWLEDGED), 1);
        due("lost", f.count(0, LOST), 0);
        due("flight", f.property(0, FLIGHT), 3);
        for (int i = 0; i < 3; i++) {
            due("inFlight(0, " + i + ", 0)", f.inFlight(0, i, 0), i + 1);
        }
        f.run(1);
        due("lost by the acknowledgement of 2", f.count(0, LOST), 1);
        due("the one behind it stays", f.inFlight(0, 0, 0), 3);
        due("backlog", f.property(0, BACKLOG), 1);
    }

    private void backlogOfFoundLostIs9999AtMost() {
        clause("TICKS", "and are added to the backlog, which is 9999 at most);");
        for (int backlog = 9997; backlog <= 9999; backlog++) {
            ConnectionFamily f = beforeAGap();
            fillBacklog(f, 0, backlog);
            f.run(1);
            due("gap losses", f.count(0, GAPS), 1);
            due("sent", f.count(0, SENT), 4);
            due("backlog after a gap at " + backlog, f.property(0, BACKLOG), Math.min(9999, backlog + 1));
        }
        for (int backlog = 9996; backlog <= 9999; backlog++) {
            ConnectionFamily f = new ConnectionFamily();
            f.setLink(2, 30);
            f.give(0, 2);
            f.run(10);
            due("flight", f.property(0, FLIGHT), 2);
            // without a limit the head does not send again
            f.open(0, 9);
            f.setBudget(2);
            due("limit", f.property(0, LIMIT), 0);
            fillBacklog(f, 0, backlog);
            f.run(1);
            due("timeout losses", f.count(0, TIMEOUTS), 1);
            due("backlog after a timeout at " + backlog, f.property(0, BACKLOG), Math.min(9999, backlog + 2));
        }
    }

    private void firstSampleAndLaterOnes() {
        clause("TICKS", "If the number of samples is 0, S becomes 8 * r and V becomes 2 * r;");
        for (int r : new int[] {1, 9}) {
            ConnectionFamily f = new ConnectionFamily();
            f.setLink(2, r);
            trips(f, 0, 1);
            due("S by " + r, f.property(0, S), 8 * r);
            due("V by " + r, f.property(0, V), 2 * r);
        }
        clause("TICKS", "otherwise let d be r - S / 8: S becomes S + d, and V becomes V + (the absolute value of d) - V / 4.");
        ConnectionFamily f = new ConnectionFamily();
        trips(f, 0, 1);
        int[][] delaySV = {{5, 40, 8}, {1, 36, 10}, {1, 33, 11}, {10, 39, 15}, {4, 39, 12}, {4, 39, 9}, {4, 39, 7},
            {4, 39, 6}, {4, 39, 5}, {4, 39, 4}, {4, 39, 3}, {4, 39, 3}};
        for (int[] one : delaySV) {
            f.setLink(2, one[0]);
            trips(f, 0, 1);
            due("S after one of " + one[0], f.property(0, S), one[1]);
            due("V after one of " + one[0], f.property(0, V), one[2]);
        }
    }

    private void samplesAre16AtMost() {
        clause("TICKS", "The number of samples becomes one more (16 at most), and the backoff 0.");
        ConnectionFamily f = onFastLink();
        trips(f, 0, 15);
        due("samples", f.property(0, SAMPLES), 15);
        trips(f, 0, 1);
        due("samples", f.property(0, SAMPLES), 16);
        trips(f, 0, 1);
        due("samples", f.property(0, SAMPLES), 16);
        due("acknowledged", f.count(0, ACKNOWLEDGED), 17);
    }

    private void creditGrowsBelowTheThreshold() {
        clause("TICKS", "by 16, if credit / 16 is less than the threshold");
        ConnectionFamily f = onFastLink();
        deliver(f, 0, 29);
        due("credit", f.property(0, CREDIT), 496);
        trips(f, 0, 1);
        due("credit: 31 packets are less than 32", f.property(0, CREDIT), 512);
        trips(f, 0, 1);
        due("credit: 32 packets are not", f.property(0, CREDIT), 513);
        trips(f, 0, 1);
        f.setWeight(0, 9);
        f.open(0, 1);
        // 514 - 51
        due("credit", f.property(0, CREDIT), 463);
        trips(f, 0, 3);
        due("credit", f.property(0, CREDIT), 511);
        trips(f, 0, 1);
        due("credit: 511 sixteenths are less than 32 packets", f.property(0, CREDIT), 527);
        trips(f, 0, 1);
        due("credit: 527 sixteenths are not", f.property(0, CREDIT), 528);
        ConnectionFamily g = ofTen();
        due("no credit at all", g.property(9, CREDIT), 0);
        trips(g, 9, 1);
        due("credit from nothing", g.property(9, CREDIT), 16);
    }

    /** A gap loss at a credit of 32 * n leaves a threshold of n and a credit of 16 * n, so that it is not below it. */
    private static ConnectionFamily afterAGapAt(int credit) {
        ConnectionFamily f = new ConnectionFamily();
        f.setLink(0, 60);
        f.setLink(1, 8);
        deliver(f, 0, (credit - 32) / 16);
        sendWithDelay(f, 0, 30);
        sendWithDelay(f, 0, 1);
        f.run(1);
        return f;
    }

    private void creditGrowsByAtLeast1() {
        clause("TICKS", "otherwise by 256 / credit, but at least by 1;");
        int[][] before = {{64, 32, 40, 46}, {128, 64, 68, 71}, {256, 128, 130, 131}, {512, 256, 257, 258}};
        for (int[] one : before) {
            ConnectionFamily f = afterAGapAt(one[0]);
            due("gap losses", f.count(0, GAPS), 1);
            due("credit after a gap at " + one[0], f.property(0, CREDIT), one[1]);
            due("threshold after a gap at " + one[0], f.property(0, THRESHOLD), one[1] / 16);
            f.run(1);
            due("credit by 256 / " + one[1], f.property(0, CREDIT), one[2]);
            trips(f, 0, 1);
            due("credit by 256 / " + one[2], f.property(0, CREDIT), one[3]);
        }
    }

    private void creditGrowsTo1024AtMost() {
        clause("TICKS", "but to 1024 at most.");
        ConnectionFamily f = onFastLink();
        deliver(f, 0, 541);
        int[] credits = {1023, 1024, 1024, 1024};
        for (int want : credits) {
            due("credit", f.property(0, CREDIT), want);
            trips(f, 0, 1);
        }
        due("lost", f.count(0, LOST), 0);
        due("flight of the greatest window", flightOf(f, 100), 64);
    }

    private static int flightOf(ConnectionFamily f, int packets) {
        f.give(0, packets);
        f.run(1);
        return f.property(0, FLIGHT);
    }

    private void noGrowthAfterALoss() {
        clause("TICKS", "If no packet was found lost, the credit grows:");
        ConnectionFamily f = beforeAGap();
        due("credit", f.property(0, CREDIT), 48);
        f.run(1);
        due("credit after a gap loss", f.property(0, CREDIT), 32);
    }

    private void sendingBeginsWithTheTick() {
        clause("TICKS", "beginning with the number t % 10 and going round");
        for (int tick = 0; tick <= 20; tick++) {
            ConnectionFamily f = ofTen();
            runUntil(f, tick);
            f.setLink(0, 1);
            for (int c = 0; c <= 9; c++) {
                f.give(c, 1);
            }
            f.run(1);
            for (int c = 0; c <= 9; c++) {
                due("sent of " + c + " at tick " + tick, f.count(c, SENT), 1);
                due("dropped of " + c + " at tick " + tick, f.count(c, DROPPED), c == tick % 10 ? 0 : 1);
            }
        }
    }

    private void sendingGoesRound() {
        clause("TICKS", "each open connection that may send sends one packet;");
        for (int tick = 0; tick <= 10; tick++) {
            ConnectionFamily f = new ConnectionFamily();
            for (int c = 1; c <= 7; c++) {
                f.open(0, 1);
            }
            for (int c : new int[] {1, 2, 4, 5, 6}) {
                f.close(c);
            }
            runUntil(f, tick);
            f.setLink(0, 1);
            for (int c : new int[] {0, 3, 7}) {
                f.give(c, 1);
            }
            f.run(1);
            int first = tick >= 1 && tick <= 3 ? 3 : tick >= 4 && tick <= 7 ? 7 : 0;
            for (int c : new int[] {0, 3, 7}) {
                due("dropped of " + c + " at tick " + tick, f.count(c, DROPPED), c == first ? 0 : 1);
            }
        }
    }

    private void sendingIsRepeated() {
        clause("TICKS", "this is repeated until none does.");
        ConnectionFamily f = onFastLink();
        trips(f, 0, 4);
        f.setWeight(0, 2);
        f.open(0, 1);
        properties("a third of 96 for the child", f, CREDIT, 64, 32);
        runUntil(f, 10);
        f.setLink(1, 1);
        f.give(0, 9);
        f.give(1, 9);
        f.run(1);
        // 0, 1, 0, 1, 0, 0; the first of them is served
        int[] order = {1, 0, 1, 0, 0, NONE};
        for (int i = 0; i < order.length; i++) {
            due("queued(" + i + ")", f.queued(i), order[i]);
        }
        properties("each flight is a window", f, FLIGHT, 4, 2);
    }

    private void sendingNeedsABacklog() {
        clause("TICKS", "A connection may send if it has a backlog");
        ConnectionFamily f = new ConnectionFamily();
        f.run(1);
        due("sent without a backlog", f.count(0, SENT), 0);
        f.give(0, 1);
        f.run(1);
        due("sent with a backlog of 1", f.count(0, SENT), 1);
        due("backlog", f.property(0, BACKLOG), 0);
        f.run(1);
        due("sent without a backlog again", f.count(0, SENT), 1);
    }

    private void sendingNeedsAWindow() {
        clause("TICKS", "its flight is smaller than its window");
        ConnectionFamily f = new ConnectionFamily();
        f.setLink(2, 9);
        f.give(0, 1);
        f.run(1);
        due("flight of 1, window of 2", f.property(0, FLIGHT), 1);
        f.give(0, 2);
        f.run(1);
        due("flight of 2", f.property(0, FLIGHT), 2);
        f.run(1);
        due("flight of 2, window of 2", f.property(0, FLIGHT), 2);
        due("backlog", f.property(0, BACKLOG), 1);
        f.open(0, 1);
        due("window of 1", f.property(0, WINDOW), 1);
        f.run(1);
        due("flight of 2, window of 1", f.property(0, FLIGHT), 2);
    }

    private void sendingNeedsABudget() {
        clause("TICKS", "and all flights together are smaller than the budget.");
        for (int budget = 2; budget <= 4; budget++) {
            ConnectionFamily f = new ConnectionFamily();
            trips(f, 0, 6);
            f.open(0, 1);
            f.give(0, 2);
            f.run(1);
            f.setBudget(budget);
            f.setWeight(1, 9);
            f.give(1, 10);
            due("flight of the head", f.property(0, FLIGHT), 2);
            due("window of its child", f.property(1, WINDOW), budget);
            f.run(1);
            due("all flights, of " + budget, f.told(FLIGHTS), budget);
            due("flight of its child", f.property(1, FLIGHT), budget - 2);
        }
    }

    private void aFullQueueDrops() {
        clause("TICKS", "if the queue of the link has at least as many packets as its capacity, it is dropped");
        int[] droppedOfTen = {0, 9, 8, 7, 6, 5, 4, 3, 2, 1, 0, 0};
        for (int capacity = 1; capacity <= 11; capacity++) {
            ConnectionFamily f = ofTen();
            f.setLink(0, capacity);
            f.setLink(1, 1);
            for (int c = 0; c <= 9; c++) {
                f.give(c, 1);
            }
            f.run(1);
            int dropped = 0;
            for (int c = 0; c <= 9; c++) {
                dropped += f.count(c, DROPPED);
            }
            due("dropped by a capacity of " + capacity, dropped, droppedOfTen[capacity]);
            due("left in the queue of " + capacity, f.told(QUEUE), 9 - dropped);
            due("all are in flight", f.told(FLIGHTS), 10);
        }
        ConnectionFamily f = onFastLink();
        deliver(f, 0, 542);
        f.give(0, 64);
        f.run(1);
        due("dropped by a capacity of 60", f.count(0, DROPPED), 4);
        due("left in the queue of 60", f.told(QUEUE), 52);
    }

    private void anOverfullQueueDrops() {
        clause("TICKS", "at least as many packets as its capacity, it is dropped, otherwise it joins the queue.");
        for (int capacity = 7; capacity <= 10; capacity++) {
            ConnectionFamily f = ofTen();
            f.setLink(1, 1);
            for (int c = 1; c <= 9; c++) {
                f.give(c, 1);
            }
            f.run(1);
            due("queue", f.told(QUEUE), 8);
            f.setLink(0, capacity);
            f.give(0, 1);
            f.run(1);
            due("dropped behind 8, by a capacity of " + capacity, f.count(0, DROPPED), capacity <= 8 ? 1 : 0);
            due("queue", f.told(QUEUE), capacity <= 8 ? 7 : 8);
        }
    }

    private void servesAsFarAsThereAreAny() {
        clause("TICKS", "The link serves as many packets as its rate says, as far as there are any.");
        for (int rate = 1; rate <= 8; rate++) {
            for (int packets = 0; packets <= 10; packets++) {
                ConnectionFamily f = ofTen();
                f.setLink(1, rate);
                for (int c = 0; c < packets; c++) {
                    f.give(c, 1);
                }
                f.run(1);
                due("on their way, " + packets + " by " + rate, f.told(ON_WAY), Math.min(rate, packets));
                due("in the queue, " + packets + " by " + rate, f.told(QUEUE), Math.max(0, packets - rate));
            }
        }
    }

    /** Five connections with a credit of 60 packets and more each. */
    private ConnectionFamily ofFiveGreatWindows() {
        ConnectionFamily f = onFastLink();
        deliver(f, 0, 542);
        for (int parent : new int[] {0, 0, 1, 0}) {
            int opened = f.open(parent, 1);
            deliver(f, parent, 512);
            deliver(f, opened, 512);
        }
        for (int c = 0; c <= 4; c++) {
            due("lost of " + c, f.count(c, LOST), 0);
            due("credit of " + c + " is enough", f.property(c, CREDIT) >= 960 ? 1 : 0, 1);
        }
        return f;
    }

    private static int sum(ConnectionFamily f, int what) {
        int sum = 0;
        for (int c = 0; c <= 4; c++) {
            sum += f.count(c, what);
        }
        return sum;
    }

    /** A rate of 8 and a delay of 30: the queue is never empty, and so 240 are on their way after 30 ticks. */
    private void asManyOnTheirWayAsCanBe() {
        clause("TICKS", "The link serves as many packets as its rate says");
        ConnectionFamily f = ofFiveGreatWindows();
        f.setLink(2, 30);
        int servedBefore = sum(f, ACKNOWLEDGED);
        for (int c = 0; c <= 4; c++) {
            f.setWeight(c, 9);
            f.give(c, 64);
            for (int i = 1; i <= 6; i++) {
                f.run(1);
                due("on their way after " + (6 * c + i) + " ticks", f.told(ON_WAY), 8 * (6 * c + i));
            }
            f.setWeight(c, 1);
        }
        due("on their way", f.told(ON_WAY), 240);
        due("in the queue", f.told(QUEUE) >= 8 ? 1 : 0, 1);
        f.run(1);
        due("on their way when the first eight have come", f.told(ON_WAY), 240);
        due("come", sum(f, ACKNOWLEDGED) - servedBefore + f.told(LATE), 8);
        for (int i = 0; i < 40 && f.told(FLIGHTS) + f.told(ON_WAY) > 0; i++) {
            f.run(60);
        }
        due("all that were not dropped have come", sum(f, ACKNOWLEDGED) + f.told(LATE), sum(f, SENT) - sum(f, DROPPED));
        due("all that were given", sum(f, ACKNOWLEDGED) - servedBefore, 5 * 64);
    }

    private void penaltiesBecomeLess() {
        clause("TICKS", "If t is a multiple of 8, each penalty above 0 becomes 1 less.");
        ConnectionFamily f = new ConnectionFamily();
        sendWithDelay(f, 0, 12);
        f.run(10);
        due("timeouts at tick 10", f.count(0, TIMEOUTS), 1);
        for (int tick = 10; tick <= 60; tick++) {
            due("penalty after tick " + tick, f.property(0, PENALTY), Math.max(0, 4 - (tick / 8 - 1)));
            f.run(1);
        }
        due("no other loss", f.count(0, LOST), 1);
        ConnectionFamily g = new ConnectionFamily();
        g.run(6);
        sendWithDelay(g, 0, 12);
        g.run(9);
        due("penalty before tick 16", g.property(0, PENALTY), 0);
        g.run(1);
        due("timeouts at tick 16", g.count(0, TIMEOUTS), 1);
        due("penalty after tick 16: 4 - 1", g.property(0, PENALTY), 3);
    }
}
