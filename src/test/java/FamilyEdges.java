/** FAMILIES: numbers, weights, kin, the budget and how it is divided. */
final class FamilyEdges extends ClauseGroup {
    FamilyEdges(Check check, Doc doc) {
        super(check, doc);
    }

    @Override
    void all() {
        numbersAre0To9();
        theHeadIsAlwaysOpen();
        aParentIsOpen();
        weightsAre1To9();
        kinWithoutAParent();
        budgetIs1To200();
        nothingIsLeftToDivide();
        asFarAsItGoes();
        theGreatestRemainderFirst();
        equalRemainders();
        anAmountOfNothing();
    }

    private void numbersAre0To9() {
        clause("FAMILIES", "Connections have the numbers 0 to 9;");
        ConnectionFamily f = ofTen();
        due("told(5)", f.told(OPEN), 10);
        due("weight of 0", f.property(0, WEIGHT), 1);
        due("weight of 9", f.property(9, WEIGHT), 1);
        for (int c : new int[] {LEAST, -1, 10, MOST}) {
            refused("property(" + c + ", 1)", ClauseGroup::ofTen, g -> g.property(c, WEIGHT), BAD);
            refused("give(" + c + ", 1)", ClauseGroup::ofTen, g -> g.give(c, 1), BAD);
        }
    }

    private void theHeadIsAlwaysOpen() {
        clause("FAMILIES", "Connection 0, the head, is always open and has no parent;");
        due("told(5)", fresh().told(OPEN), 1);
        due("parent", fresh().property(0, PARENT), NONE);
        refused("close(0) alone", ClauseGroup::fresh, f -> f.close(0), BAD);
        refused("close(0) with children", ClauseGroup::ofTen, f -> f.close(0), BAD);
        ConnectionFamily f = ofTen();
        for (int c = 9; c >= 1; c--) {
            f.close(c);
        }
        due("told(5) when all others are closed", f.told(OPEN), 1);
        due("weight when all others are closed", f.property(0, WEIGHT), 1);
    }

    private void aParentIsOpen() {
        clause("FAMILIES", "any other open connection has a parent, which is open.");
        ConnectionFamily f = new ConnectionFamily();
        Texts.load(f, "1(1(1(1)))");
        f.close(1);
        due("parent of 2", f.property(2, PARENT), 0);
        f.close(2);
        due("parent of 3", f.property(3, PARENT), 0);
    }

    private void weightsAre1To9() {
        clause("FAMILIES", "Each has a weight (1 to 9; the head 1 at first).");
        due("weight of the head", fresh().property(0, WEIGHT), 1);
        for (int weight = 1; weight <= 9; weight++) {
            ConnectionFamily f = new ConnectionFamily();
            due("open(0, " + weight + ")", f.open(0, weight), 1);
            due("its weight", f.property(1, WEIGHT), weight);
            due("setWeight(0, " + weight + ")", f.setWeight(0, weight), 1);
            due("weight of the head", f.property(0, WEIGHT), weight);
        }
    }

    private void kinWithoutAParent() {
        clause("FAMILIES", "The kin of a connection are its parent, its children, and the other children of its parent.");
        due("kin of the head alone", fresh().kin(0), 0);
        ConnectionFamily f = new ConnectionFamily();
        f.open(0, 1);
        due("kin of the head with one child", f.kin(0), 2);
        due("kin of an only child", f.kin(1), 1);
        ConnectionFamily g = ofTen();
        due("kin of the head with nine children", g.kin(0), 1022);
        due("kin of the first of nine", g.kin(1), 1021);
        due("kin of the last of nine", g.kin(9), 511);
    }

    private void budgetIs1To200() {
        clause("FAMILIES", "The family has a budget (1 to 200; 40 at first), a number of packets.");
        ConnectionFamily f = new ConnectionFamily();
        due("told(1)", f.told(BUDGET), 40);
        due("setBudget(1)", f.setBudget(1), 40);
        due("amount", f.property(0, AMOUNT), 1);
        due("setBudget(200)", f.setBudget(200), 1);
        due("amount", f.property(0, AMOUNT), 200);
    }

    private void nothingIsLeftToDivide() {
        clause("FAMILIES", "and of what is left each of them gets one more");
        ConnectionFamily f = new ConnectionFamily();
        due("limit of a head alone", f.property(0, LIMIT), 40);
        Texts.load(f, "1(3 4)");
        properties("40 by 1, 3 and 4: no rest", f, LIMIT, 5, 15, 20);
        f.setBudget(200);
        properties("200 by 1, 3 and 4: no rest", f, LIMIT, 25, 75, 100);
    }

    private void asFarAsItGoes() {
        clause("FAMILIES", "as far as it goes");
        for (int budget = 1; budget <= 21; budget++) {
            ConnectionFamily f = ofTen();
            f.setBudget(budget);
            for (int c = 0; c <= 9; c++) {
                int want = budget / 10 + (c < budget % 10 ? 1 : 0);
                due("limit of " + c + " of ten, budget " + budget, f.property(c, LIMIT), want);
                due("amount of " + c + " of ten, budget " + budget, f.property(c, AMOUNT), c == 0 ? budget : want);
            }
        }
    }

    private void theGreatestRemainderFirst() {
        clause("FAMILIES", "in the order of their remainders (A * weight) % W, the greatest first;");
        ConnectionFamily f = new ConnectionFamily();
        Texts.load(f, "1(2 3)");
        f.setBudget(1);
        properties("remainders 1, 2 and 3 of 6, one left", f, LIMIT, 0, 0, 1);
        f.setBudget(5);
        properties("remainders 5, 4 and 3 of 6, two left", f, LIMIT, 1, 2, 2);
        f.setBudget(4);
        properties("remainders 4, 2 and 0 of 6, one left", f, LIMIT, 1, 1, 2);
        f.setBudget(2);
        properties("remainders 2, 4 and 0 of 6, one left", f, LIMIT, 0, 1, 1);
    }

    private void equalRemainders() {
        clause("FAMILIES", "of equal ones the connection itself comes first, then its children in ascending order.");
        ConnectionFamily f = new ConnectionFamily();
        Texts.load(f, "1(2 2)");
        f.setBudget(1);
        properties("remainders 1, 2 and 2 of 5, one left", f, LIMIT, 0, 1, 0);
        f.setBudget(2);
        properties("remainders 2, 4 and 4 of 5, two left", f, LIMIT, 0, 1, 1);
        f.setBudget(3);
        properties("remainders 3, 1 and 1 of 5, one left", f, LIMIT, 1, 1, 1);
        f.setBudget(4);
        properties("remainders 4, 3 and 3 of 5, two left", f, LIMIT, 1, 2, 1);
        Texts.load(f, "1(1)");
        f.setBudget(1);
        properties("the connection itself before its child", f, LIMIT, 1, 0);
        ConnectionFamily g = new ConnectionFamily();
        Texts.load(g, "1(1(1)1)");
        g.close(1);
        due("open(0, 1)", g.open(0, 1), 1);
        g.setBudget(2);
        // the children 1, 2 and 3 in their ascending order, not in that of their opening
        properties("one left for the children", g, LIMIT, 1, 1, 0, 0);
    }

    private void anAmountOfNothing() {
        clause("FAMILIES", "What a child gets is its amount;");
        ConnectionFamily f = new ConnectionFamily();
        Texts.load(f, "9(1(1 1))");
        f.setBudget(1);
        properties("an amount of 0 is divided", f, AMOUNT, 1, 0, 0, 0);
        properties("an amount of 0 is divided", f, LIMIT, 1, 0, 0, 0);
        f.setBudget(10);
        properties("an amount of 1 is divided", f, AMOUNT, 10, 1, 0, 0);
        properties("an amount of 1 is divided", f, LIMIT, 9, 1, 0, 0);
        clause("FAMILIES", "what the connection itself gets is its limit.");
        f.setBudget(200);
        properties("an amount of 20 is divided", f, AMOUNT, 200, 20, 7, 6);
        properties("an amount of 20 is divided", f, LIMIT, 180, 7, 7, 6);
    }
}
