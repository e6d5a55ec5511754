/** Promises 13 to 22: what is told. The numbers are worked out by hand. */
final class TellingPromisesTest {
    private static final int BAD = -1, NONE = -9;
    private static final int LEAST = Integer.MIN_VALUE, MOST = Integer.MAX_VALUE;
    private static final Check CHECK = new Check();

    private TellingPromisesTest() {
    }

    public static void main(String[] args) {
        promise13Property();
        promise13Amounts();
        promise13AmountsBelowSmallerNumbers();
        promise13Window();
        promise13Timeout();
        promise13GreatV();
        promise14Count();
        promise15Told();
        promise16Child();
        promise17Kin();
        promise18Distance();
        promise19InFlight();
        promise20Queued();
        promise20QueuedOfClosed();
        promise21Due();
        promise22Fairness();
        CHECK.end();
    }

    private static void due(String call, long got, long want) {
        CHECK.due(call, got, want);
    }

    private static void properties(String when, ConnectionFamily f, int what, int... want) {
        for (int c = 0; c < want.length; c++) {
            due(when + ": property(" + c + ", " + what + ")", f.property(c, what), want[c]);
        }
    }

    private static void promise13Property() {
        ConnectionFamily f = new ConnectionFamily();
        int[][] wrong = {{-1, 0}, {1, 0}, {10, 0}, {0, -1}, {0, 17}, {LEAST, 0}, {MOST, 0}, {0, LEAST}, {0, MOST}};
        for (int[] one : wrong) {
            due("property(" + one[0] + ", " + one[1] + ")", f.property(one[0], one[1]), BAD);
        }
        f.open(0, 7);
        f.give(1, 500);
        f.run(1);
        int[] want = {0, 7, 35, 35, 28, 32, 1, 1, 499, 0, 0, 10, NONE, NONE, 0, 1, 0};
        for (int what = 0; what <= 16; what++) {
            due("property(1, " + what + ")", f.property(1, what), want[what]);
        }
    }

    private static void promise13Amounts() {
        ConnectionFamily f = new ConnectionFamily();
        Texts.load(f, "1(3(1)2)");
        // 40 by 1, 3 and 2: 6 rest 4, 20, 13 rest 2; one is left
        properties("1(3(1)2)", f, 2, 40, 20, 5, 13);
        properties("1(3(1)2)", f, 3, 7, 15, 5, 13);
        Texts.load(f, "1(1 1)");
        f.setBudget(2);
        properties("of equal remainders the connection itself is first", f, 3, 1, 1, 0);
        f.setBudget(1);
        properties("budget of 1", f, 3, 1, 0, 0);
        Texts.load(f, "2(3 3 3)");
        f.setBudget(7);
        // 14, 21, 21 and 21 by 11: 1 rest 3, and 1 rest 10 each
        properties("2(3 3 3)", f, 3, 1, 2, 2, 2);
        f.setBudget(6);
        // 12, 18, 18 and 18 by 11: 1 rest 1, and 1 rest 7 each
        properties("2(3 3 3) of 6", f, 3, 1, 2, 2, 1);
        Texts.load(f, "9(1(9 9 9)9)");
        f.setBudget(200);
        // 1800, 200 and 1800 by 19: 94 rest 14, 10 rest 10, 94 rest 14; then 10, 90, 90 and 90 by 28
        properties("9(1(9 9 9)9)", f, 2, 200, 10, 3, 3, 3, 95);
        properties("9(1(9 9 9)9)", f, 3, 95, 1, 3, 3, 3, 95);
    }

    private static void promise13AmountsBelowSmallerNumbers() {
        ConnectionFamily f = new ConnectionFamily();
        f.open(0, 1);
        f.open(0, 1);
        f.close(1);
        f.open(2, 3);
        due("parent of 1", f.property(1, 0), 2);
        properties("a child of smaller number", f, 2, 40, 15, 20);
        properties("a child of smaller number", f, 3, 20, 15, 5);
        f.setBudget(20);
        properties("a child of smaller number, half the budget", f, 2, 20, 7, 10);
        properties("a child of smaller number, half the budget", f, 3, 10, 7, 3);
    }

    private static void promise13Window() {
        ConnectionFamily f = new ConnectionFamily();
        due("credit / 16", f.property(0, 6), 2);
        f.setBudget(1);
        due("the limit", f.property(0, 6), 1);
        f.open(0, 9);
        properties("no limit", f, 3, 0, 1);
        properties("no limit, no window", f, 6, 0, 1);
        due("credit below a packet", f.property(0, 4), 4);
        f.setBudget(20);
        due("at least 1", f.property(0, 6), 1);

        ConnectionFamily g = new ConnectionFamily();
        for (int i = 0; i < 6; i++) {
            g.give(0, 2);
            g.run(6);
        }
        due("credit", g.property(0, 4), 224);
        due("window", g.property(0, 6), 14);
        g.open(0, 1);
        due("half of it", g.property(0, 6), 7);
        g.setLink(2, 30);
        g.give(1, 1);
        g.run(12);
        // 1 has its timeout of 11 at tick 47
        properties("penalties", g, 9, 2, 4);
        properties("7 * 14 / 16, and 1 at least", g, 6, 6, 1);
        g.run(1);
        properties("7 * 15 / 16", g, 6, 6, 1);
        g.run(8);
        properties("no penalty of the head", g, 6, 7, 1);
    }

    private static void promise13Timeout() {
        ConnectionFamily f = new ConnectionFamily();
        due("no estimates", f.property(0, 11), 10);
        f.setLink(2, 1);
        for (int i = 0; i < 20; i++) {
            f.give(0, 1);
            f.run(2);
        }
        // every trip is 1: S 8, V 2
        due("S", f.property(0, 12), 8);
        due("V", f.property(0, 13), 2);
        due("S / 8 + V", f.property(0, 11), 3);
        due("samples", f.property(0, 14), 16);
        f.setLink(2, 3);
        f.give(0, 1);
        f.run(4);
        // the timeout of 3 comes after the acknowledgement
        due("S", f.property(0, 12), 10);
        due("V", f.property(0, 13), 4);
        due("S / 8 + V", f.property(0, 11), 5);
        f.setLink(2, 1);
        f.give(0, 1);
        f.run(2);
        due("V", f.property(0, 13), 3);
    }

    /** Closing and opening at the end of a chain doubles V without an end: timeouts stay what they are by the words. */
    private static void promise13GreatV() {
        ConnectionFamily f = new ConnectionFamily();
        f.give(0, 1);
        f.run(6);
        int parent = 0;
        for (int i = 0; i < 9; i++) {
            parent = f.open(parent, 9);
        }
        due("V of the ninth", f.property(9, 13), 10 << 9);
        due("its timeout", f.property(9, 11), 400);
        int last = 9;
        for (int i = 0; i < 100; i++) {
            int next = last == 9 ? 1 : last + 1;
            f.close(next);
            due("open", f.open(last, 9), next);
            last = next;
            due("timeout of " + next, f.property(next, 11), 400);
        }
    }

    private static void promise14Count() {
        ConnectionFamily f = new ConnectionFamily();
        int[][] wrong = {{-1, 0}, {1, 0}, {10, 0}, {0, -1}, {0, 6}, {LEAST, 0}, {MOST, 0}, {0, LEAST}, {0, MOST}};
        for (int[] one : wrong) {
            due("count(" + one[0] + ", " + one[1] + ")", f.count(one[0], one[1]), BAD);
        }
        f.setLink(0, 1);
        f.give(0, 2);
        f.run(6);
        // both are sent at tick 0, the second is dropped; the first is acknowledged at tick 5
        int[] want = {2, 1, 0, 0, 0, 1};
        for (int what = 0; what <= 5; what++) {
            due("count(0, " + what + ") after tick 5", f.count(0, what), want[what]);
        }
        f.run(60);
        // at tick 15 the second has its timeout of 15, and goes as the third
        int[] later = {3, 2, 1, 0, 1, 1};
        for (int what = 0; what <= 5; what++) {
            due("count(0, " + what + ") after tick 65", f.count(0, what), later[what]);
        }
        f.open(0, 1);
        f.give(1, 1);
        f.run(6);
        due("count(1, 0)", f.count(1, 0), 1);
        f.close(1);
        due("counts do not go to the parent", f.count(0, 1), 2);
        f.open(0, 1);
        due("counts are new in a new connection", f.count(1, 0), 0);
    }

    private static void promise15Told() {
        ConnectionFamily f = new ConnectionFamily();
        due("told(-1)", f.told(-1), BAD);
        due("told(13)", f.told(13), BAD);
        due("told(least)", f.told(LEAST), BAD);
        due("told(most)", f.told(MOST), BAD);
        f.type(49);
        f.setBudget(33);
        f.setLink(0, 11);
        f.setLink(1, 1);
        f.setLink(2, 30);
        f.open(0, 1);
        f.give(0, 3);
        f.give(1, 3);
        f.run(1);
        int[] want = {1, 33, 11, 1, 30, 2, 2, 1, 1, 32, 0, 5, 1};
        for (int what = 0; what <= 12; what++) {
            due("told(" + what + ")", f.told(what), want[what]);
        }
        f.run(35);
        // those of ticks 0 and 1 are late at ticks 30 and 31, after the timeouts of tick 10
        due("told(10)", f.told(10), 2);
        due("told(9): 16 and 16 by timeouts", f.told(9), 32);
    }

    private static void promise16Child() {
        ConnectionFamily f = new ConnectionFamily();
        Texts.load(f, "1(2(3 4)5)");
        due("child(0, 0)", f.child(0, 0), 1);
        due("child(0, 1)", f.child(0, 1), 4);
        due("child(0, 2)", f.child(0, 2), NONE);
        due("child(1, 0)", f.child(1, 0), 2);
        due("child(1, 1)", f.child(1, 1), 3);
        due("child(2, 0)", f.child(2, 0), NONE);
        due("child(0, most)", f.child(0, MOST), NONE);
        due("child(0, -1)", f.child(0, -1), BAD);
        due("child(0, least)", f.child(0, LEAST), BAD);
        due("child(5, 0)", f.child(5, 0), BAD);
        due("child(-1, 0)", f.child(-1, 0), BAD);
        due("child(10, 0)", f.child(10, 0), BAD);
        f.close(1);
        due("child(0, 0) after close(1)", f.child(0, 0), 2);
        due("child(0, 2) after close(1)", f.child(0, 2), 4);
        due("child(1, 0) after close(1)", f.child(1, 0), BAD);
    }

    private static void promise17Kin() {
        ConnectionFamily f = new ConnectionFamily();
        due("kin(0) alone", f.kin(0), 0);
        Texts.load(f, "1(2(3 4(6))5)");
        due("kin(0)", f.kin(0), 1 << 1 | 1 << 5);
        due("kin(1)", f.kin(1), 1 | 1 << 2 | 1 << 3 | 1 << 5);
        due("kin(2)", f.kin(2), 1 << 1 | 1 << 3);
        due("kin(3)", f.kin(3), 1 << 1 | 1 << 2 | 1 << 4);
        due("kin(4)", f.kin(4), 1 << 3);
        due("kin(5)", f.kin(5), 1 | 1 << 1);
        due("kin(6)", f.kin(6), BAD);
        due("kin(-1)", f.kin(-1), BAD);
        due("kin(10)", f.kin(10), BAD);
        due("kin(most)", f.kin(MOST), BAD);
    }

    private static void promise18Distance() {
        ConnectionFamily f = new ConnectionFamily();
        Texts.load(f, "1(2(3 4(6))5(7))");
        int[][] want = {{0, 0, 0}, {4, 4, 0}, {0, 4, 3}, {4, 0, 3}, {2, 4, 3}, {4, 6, 5}, {6, 2, 4}, {3, 1, 1},
            {1, 5, 2}, {0, 7, BAD}, {7, 0, BAD}, {-1, 0, BAD}, {0, -1, BAD}, {10, 0, BAD}, {0, 10, BAD},
            {7, 7, BAD}, {LEAST, MOST, BAD}};
        for (int[] one : want) {
            due("distance(" + one[0] + ", " + one[1] + ")", f.distance(one[0], one[1]), one[2]);
        }
        ConnectionFamily g = new ConnectionFamily();
        for (int c = 0; c < 9; c++) {
            g.open(c, 1);
        }
        due("from one end to the other", g.distance(9, 0), 9);
    }

    private static void promise19InFlight() {
        ConnectionFamily f = new ConnectionFamily();
        f.give(0, 2);
        f.run(6);
        f.give(0, 1);
        f.run(1);
        f.give(0, 2);
        f.run(1);
        // 2 was sent at tick 6, 3 and 4 at tick 7
        int[] ticks = {6, 7, 7};
        for (int i = 0; i < 3; i++) {
            due("inFlight(0, " + i + ", 0)", f.inFlight(0, i, 0), i + 2);
            due("inFlight(0, " + i + ", 1)", f.inFlight(0, i, 1), ticks[i]);
        }
        due("inFlight(0, 3, 0)", f.inFlight(0, 3, 0), NONE);
        due("inFlight(0, most, 1)", f.inFlight(0, MOST, 1), NONE);
        int[][] wrong = {{0, -1, 0}, {0, 0, -1}, {0, 0, 2}, {0, 9, 2}, {1, 0, 0}, {-1, 0, 0}, {10, 0, 0}, {0, LEAST, 0}};
        for (int[] one : wrong) {
            due("inFlight(" + one[0] + ", " + one[1] + ", " + one[2] + ")", f.inFlight(one[0], one[1], one[2]), BAD);
        }
        f.run(4);
        due("inFlight(0, 0, 0) after tick 11", f.inFlight(0, 0, 0), 3);
        f.run(1);
        due("inFlight(0, 0, 0) after tick 12", f.inFlight(0, 0, 0), NONE);
    }

    private static void promise20Queued() {
        ConnectionFamily f = new ConnectionFamily();
        due("queued(0)", f.queued(0), NONE);
        due("queued(-1)", f.queued(-1), BAD);
        due("queued(least)", f.queued(LEAST), BAD);
        f.open(0, 1);
        f.open(0, 1);
        for (int c = 0; c <= 2; c++) {
            f.give(c, 1);
        }
        f.setLink(1, 1);
        f.run(1);
        due("queued(0)", f.queued(0), 1);
        due("queued(1)", f.queued(1), 2);
        due("queued(2)", f.queued(2), NONE);
        due("queued(most)", f.queued(MOST), NONE);
    }

    private static void promise20QueuedOfClosed() {
        ConnectionFamily f = new ConnectionFamily();
        f.open(0, 1);
        f.setLink(2, 1);
        f.give(1, 1);
        for (int n : new int[] {1, 2, 4}) {
            f.give(0, n);
            f.run(2);
        }
        f.run(2);
        due("window of the head", f.property(0, 6), 8);
        f.setLink(1, 1);
        while (f.told(0) < 16) {
            f.run(1);
        }
        f.give(0, 8);
        f.run(1);
        f.give(1, 1);
        f.run(1);
        due("queued(6)", f.queued(6), 1);
        f.run(2);
        // without a limit 1 does not send again after its timeout at tick 20
        f.setWeight(0, 9);
        f.open(0, 9);
        due("setBudget(6)", f.setBudget(6), 40);
        f.run(1);
        due("timeouts of 1", f.count(1, 4), 1);
        due("close(1)", f.close(1), 0);
        due("queued(3) of a closed one", f.queued(3), 1);
        due("open(2, 1)", f.open(2, 1), 1);
        due("queued(3) of one that is open again", f.queued(3), 1);
        due("told(10)", f.told(10), 0);
        f.run(5);
        due("told(10)", f.told(10), 1);
        due("count(1, 1)", f.count(1, 1), 0);
    }

    private static void promise21Due() {
        ConnectionFamily f = new ConnectionFamily();
        due("due(0)", f.due(0), NONE);
        due("due(1)", f.due(1), BAD);
        due("due(-1)", f.due(-1), BAD);
        due("due(10)", f.due(10), BAD);
        f.setLink(2, 8);
        f.run(3);
        f.give(0, 1);
        f.run(1);
        due("3 + 10", f.due(0), 13);
        f.open(0, 1);
        f.setLink(2, 1);
        f.give(1, 1);
        f.run(2);
        // 1 is acknowledged at tick 5, and closed: the head gets S 8 and V 2, and so a timeout of 3
        due("close(1)", f.close(1), 0);
        due("at least the clock", f.due(0), 6);
        f.run(1);
        due("timeouts", f.count(0, 4), 1);
        due("6 + 6", f.due(0), 12);
    }

    private static void promise22Fairness() {
        ConnectionFamily f = new ConnectionFamily();
        due("fairness() of nothing", f.fairness(), NONE);
        f.give(0, 1);
        f.run(6);
        due("fairness() of one", f.fairness(), 1000);
        f.open(0, 1);
        due("one of two has nothing", f.fairness(), 500);
        f.give(1, 2);
        f.run(20);
        // x is 60 / 20 = 3 and 120 / 20 = 6: 1000 * 81 / (2 * 45)
        due("fairness() of 3 and 6", f.fairness(), 900);
        f.setWeight(0, 3);
        // limits of 30 and 10: x is 2 and 12: 1000 * 196 / (2 * 148)
        due("fairness() of 2 and 12", f.fairness(), 662);
        f.setBudget(1);
        // limits of 1 and 0: only the head counts
        due("fairness() without 1", f.fairness(), 1000);
        f.setWeight(0, 1);
        f.setWeight(1, 9);
        due("fairness() without the head", f.fairness(), 1000);
        f.setBudget(200);
        // limits of 20 and 180: x is 3 and 0
        due("x is rounded down", f.fairness(), 500);

        ConnectionFamily g = new ConnectionFamily();
        g.setLink(2, 1);
        g.open(0, 1);
        for (int i = 0; i < 27; i++) {
            g.give(i < 20 ? 0 : 1, 1);
            g.run(2);
        }
        // x is 20 * 60 / 20 and 7 * 60 / 20: 1000 * 81 * 81 / (2 * 4041)
        due("fairness() of 60 and 21", g.fairness(), 811);
    }
}
