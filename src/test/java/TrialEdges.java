import java.math.BigInteger;

/** Promises 23 to 27: what would be, undo() and digest(), at the edges of their arguments. */
final class TrialEdges extends ClauseGroup {
    TrialEdges(Check check, Doc doc) {
        super(check, doc);
    }

    @Override
    void all() {
        ifBudgetOfBudgets();
        ifBudgetOfTicks();
        ifBudgetBelowTheFlights();
        bestBudgetOfTicks();
        bestBudgetIsTheSmallest();
        ifOpenedOfWeights();
        ifOpenedOfTheOtherOne();
        ifOpenedWhenFull();
        undoOfNothing();
        undoLeavesTextAndFault();
        digestWrapsAround();
        digestOfAllValues();
    }

    private void ifBudgetOfBudgets() {
        clause("Promise 23", "the budget, 1 to 200");
        ConnectionFamily f = new ConnectionFamily();
        f.give(0, 2);
        due("ifBudget(1, 6)", f.ifBudget(1, 6), 1);
        due("ifBudget(2, 6)", f.ifBudget(2, 6), 2);
        due("ifBudget(200, 6)", f.ifBudget(200, 6), 2);
        clause("Promise 23", "Returns how many; BAD if an argument is out of range.");
        for (int budget : new int[] {LEAST, -1, 0, 201, MOST}) {
            refused("ifBudget(" + budget + ", 1)", ClauseGroup::busy, g -> g.ifBudget(budget, 1), BAD);
        }
        clause("Promise 23", "Nothing changes.");
        for (int budget : new int[] {1, 40, 200}) {
            changesNothing("ifBudget(" + budget + ", 60)", ClauseGroup::busy, g -> g.ifBudget(budget, 60));
        }
        due("ifBudget(40, 60), the budget being 40", busy().ifBudget(40, 60), busy().run(60));
    }

    private void ifBudgetOfTicks() {
        clause("Promise 23", "the number of ticks, 1 to 60");
        ConnectionFamily f = new ConnectionFamily();
        f.give(0, 1);
        f.run(5);
        due("ifBudget(40, 1)", f.ifBudget(40, 1), 1);
        ConnectionFamily g = new ConnectionFamily();
        g.setLink(2, 30);
        // the first one is lost at tick 10, and sent again at ticks 10 and 30, with a timeout of 20 and then 40
        g.give(0, 1);
        due("ifBudget(40, 60)", g.ifBudget(40, 60), 0);
        g.run(1);
        due("ifBudget(40, 60) a tick later", g.ifBudget(40, 60), 1);
        for (int ticks : new int[] {LEAST, -1, 0, 61, MOST}) {
            refused("ifBudget(40, " + ticks + ")", ClauseGroup::busy, h -> h.ifBudget(40, ticks), BAD);
        }
    }

    private void ifBudgetBelowTheFlights() {
        clause("Promise 23", "with another budget (which may be smaller than all flights together).");
        ConnectionFamily f = new ConnectionFamily();
        f.give(0, 4);
        f.run(1);
        due("flight", f.property(0, FLIGHT), 2);
        due("setBudget(1)", f.setBudget(1), STATE);
        due("ifBudget(1, 5): both in flight come back", f.ifBudget(1, 5), 2);
        due("ifBudget(1, 9): no third one before tick 10", f.ifBudget(1, 9), 2);
        due("ifBudget(1, 10): a third one at tick 10", f.ifBudget(1, 10), 3);
        due("ifBudget(2, 10): a fourth one too", f.ifBudget(2, 10), 4);
    }

    private void bestBudgetOfTicks() {
        clause("Promise 24", "the number of ticks, 1 to 15");
        due("bestBudget(1)", fresh().bestBudget(1), 20);
        due("bestBudget(15)", fresh().bestBudget(15), 20);
        clause("Promise 24", "Returns the budget; BAD if ticks is out of range.");
        for (int ticks : new int[] {LEAST, -1, 0, 16, 60, MOST}) {
            refused("bestBudget(" + ticks + ")", ClauseGroup::busy, f -> f.bestBudget(ticks), BAD);
        }
        clause("Promise 24", "Nothing changes.");
        changesNothing("bestBudget(1)", ClauseGroup::busy, f -> f.bestBudget(1));
        changesNothing("bestBudget(15)", ClauseGroup::busy, f -> f.bestBudget(15));
    }

    /** Connection 1 has a credit for this many packets, and gets a tenth of the budget. */
    private ConnectionFamily ofWindow(int window) {
        ConnectionFamily f = onFastLink();
        trips(f, 0, 2 * window - 2);
        f.open(0, 1);
        due("credit of 1", f.property(1, CREDIT), 16 * window);
        f.setWeight(0, 9);
        f.setLink(2, 5);
        f.give(1, 100);
        return f;
    }

    private void bestBudgetIsTheSmallest() {
        clause("Promise 24", "Finds the smallest budget with which most packets would be acknowledged in some ticks, of the budgets 20, 40, 60, 80 and 100.");
        for (int budget = 20; budget <= 100; budget += 20) {
            ConnectionFamily f = ofWindow(budget / 10);
            due("bestBudget(7) where " + budget + " fills the window", f.bestBudget(7), budget);
            ConnectionFamily g = ofWindow(budget / 10 - 1);
            due("bestBudget(7) where " + budget + " is enough", g.bestBudget(7), budget);
        }
        due("bestBudget(7) where 110 would fill the window", ofWindow(11).bestBudget(7), 100);
        due("bestBudget(4) where nothing can come", ofWindow(10).bestBudget(4), 20);
    }

    private void ifOpenedOfWeights() {
        clause("Promise 25", "the weight of the other one, 1 to 9");
        due("ifOpened(0, 1, NONE)", fresh().ifOpened(0, 1, NONE), 20);
        due("ifOpened(0, 9, NONE)", fresh().ifOpened(0, 9, NONE), 36);
        due("ifOpened(0, 9, 0)", fresh().ifOpened(0, 9, 0), 4);
        clause("Promise 25", "BAD if parent is not open, weight is out of range, or c is neither open nor NONE;");
        for (int weight : new int[] {LEAST, -1, 0, 10, MOST}) {
            refused("ifOpened(0, " + weight + ", 0)", ClauseGroup::busy, f -> f.ifOpened(0, weight, 0), BAD);
        }
        for (int parent : new int[] {LEAST, -9, -1, 4, 9, 10, MOST}) {
            refused("ifOpened(" + parent + ", 1, 0)", ClauseGroup::busy, f -> f.ifOpened(parent, 1, 0), BAD);
        }
        for (int c : new int[] {LEAST, -10, -8, -1, 4, 9, 10, MOST}) {
            refused("ifOpened(0, 1, " + c + ")", ClauseGroup::busy, f -> f.ifOpened(0, 1, c), BAD);
        }
    }

    private void ifOpenedOfTheOtherOne() {
        clause("Promise 25", "the connection whose limit is asked for, or NONE for the other one");
        ConnectionFamily f = ofTen();
        f.close(4);
        f.close(9);
        for (int parent = 0; parent <= 8; parent++) {
            if (parent == 4) {
                continue;
            }
            ConnectionFamily g = ofTen();
            g.close(4);
            g.close(9);
            due("open(" + parent + ", 3)", g.open(parent, 3), 4);
            due("ifOpened(" + parent + ", 3, NONE)", f.ifOpened(parent, 3, NONE), g.property(4, LIMIT));
            for (int c : new int[] {0, 1, 8}) {
                due("ifOpened(" + parent + ", 3, " + c + ")", f.ifOpened(parent, 3, c), g.property(c, LIMIT));
            }
        }
        due("ifOpened(0, 3, 4), its number to be", f.ifOpened(0, 3, 4), BAD);
        clause("Promise 25", "Nothing changes.");
        changesNothing("ifOpened(0, 9, NONE)", ClauseGroup::busy, g -> g.ifOpened(0, 9, NONE));
        changesNothing("ifOpened(3, 9, 0)", ClauseGroup::busy, g -> g.ifOpened(3, 9, 0));
    }

    private void ifOpenedWhenFull() {
        clause("Promise 25", "FULL if all 10 connections are open.");
        ConnectionFamily f = ofTen();
        due("ifOpened(0, 1, NONE) of an 11th", f.ifOpened(0, 1, NONE), FULL);
        f.close(9);
        due("ifOpened(0, 1, NONE) of a 10th", f.ifOpened(0, 1, NONE), 4);
        refused("ifOpened(0, 1, NONE)", ClauseGroup::full, g -> g.ifOpened(0, 1, NONE), FULL);
        refused("ifOpened(9, 9, 9)", ClauseGroup::full, g -> g.ifOpened(9, 9, 9), FULL);
    }

    private void undoOfNothing() {
        clause("Promise 26", "STATE if there is none.");
        refused("undo()", ClauseGroup::fresh, f -> f.undo(), STATE);
        ConnectionFamily f = new ConnectionFamily();
        f.run(1);
        clause("Promise 26", "Returns to the latest remembered state, which is not remembered any more then.");
        due("undo() of one", f.undo(), 0);
        due("told(0)", f.told(CLOCK), 0);
        due("undo() of none", f.undo(), STATE);
        clause("Promise 26", "Returns how many states are still remembered;");
        ConnectionFamily g = busy();
        for (int left = 4; left >= 0; left--) {
            due("undo()", g.undo(), left);
            due("told(11)", g.told(REMEMBERED), left);
        }
        due("undo()", g.undo(), STATE);
    }

    private void undoLeavesTextAndFault() {
        clause("Promise 26", "The text buffer and what fault() tells stay.");
        ConnectionFamily f = busy();
        f.undo();
        due("told(12)", f.told(BYTES), 2);
        due("fault()", f.fault(), 1);
        Texts.load(f, "1(2)");
        due("undo() of load()", f.undo(), 4);
        due("told(12)", f.told(BYTES), 4);
        due("fault()", f.fault(), NONE);
        due("load() of what stayed", f.load(), 2);
    }

    private void digestWrapsAround() {
        clause("Promise 27", "h is 18506 at first; then h becomes 31 * h + v (long arithmetic that wraps around)");
        for (Maker maker : new Maker[] {ClauseGroup::fresh, ClauseGroup::busy, ClauseGroup::full}) {
            due("digest()", maker.make().digest(), byHand(maker.make()));
        }
        changesNothing("digest()", ClauseGroup::busy, f -> f.digest());
    }

    private static long byHand(ConnectionFamily f) {
        BigInteger h = BigInteger.valueOf(18506);
        for (int what = 0; what <= 12; what++) {
            h = next(h, f.told(what));
        }
        for (int c = 0; c <= 9; c++) {
            if (f.kin(c) == BAD) {
                continue;
            }
            h = next(h, c);
            for (int what = 0; what <= 16; what++) {
                h = next(h, f.property(c, what));
            }
            for (int what = 0; what <= 5; what++) {
                h = next(h, f.count(c, what));
            }
            h = next(h, f.kin(c));
            for (int i = 0; i < f.property(c, FLIGHT); i++) {
                h = next(next(h, f.inFlight(c, i, 0)), f.inFlight(c, i, 1));
            }
        }
        for (int i = 0; i < f.told(QUEUE); i++) {
            h = next(h, f.queued(i));
        }
        return next(next(h, f.fault()), f.fairness()).longValue();
    }

    private static BigInteger next(BigInteger h, int v) {
        return h.multiply(BigInteger.valueOf(31)).add(BigInteger.valueOf(v));
    }

    /** By hand: of a new object all values are known. */
    private void digestOfAllValues() {
        clause("Promise 27", "told() for 0 to 12; for each open connection, in ascending order, its number, property() for 0 to 16, count() for 0 to 5, kin()");
        int[] values = {0, 40, 20, 2, 5, 1, 0, 0, 0, 32, 0, 0, 0, 0, -9, 1, 40, 40, 32, 32, 2, 0, 0, 0, 0, 10, -9, -9, 0,
            0, 0, 0, 0, 0, 0, 0, 0, 0, -9, -9};
        BigInteger h = BigInteger.valueOf(18506);
        for (int v : values) {
            h = next(h, v);
        }
        due("digest() of a new object", fresh().digest(), h.longValue());
    }
}
