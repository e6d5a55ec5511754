/** Promises 1 to 12: a new object, texts, and the acts that change a family. The numbers are worked out by hand. */
final class ActPromisesTest {
    private static final int BAD = -1, STATE = -2, FULL = -3, NONE = -9;
    private static final int CREDIT = 4, THRESHOLD = 5, WINDOW = 6, FLIGHT = 7, BACKLOG = 8, PENALTY = 9, BACKOFF = 10,
        TIMEOUT = 11, S = 12, V = 13, SAMPLES = 14, NEXT = 15, MARK = 16;
    private static final Check CHECK = new Check();

    private ActPromisesTest() {
    }

    public static void main(String[] args) {
        promise01NewObject();
        promise02Type();
        promise03Clear();
        promise04Load();
        promise04LoadStartsAnew();
        promise04Faults();
        promise04ReadsAnew();
        promise05Fault();
        promise06Open();
        promise06OpenInherits();
        promise06OpenIsNew();
        promise07Close();
        promise07CloseGivesBack();
        promise07CloseMergesEstimates();
        promise08Give();
        promise09SetWeight();
        promise10SetBudget();
        promise11SetLink();
        promise11QueueStays();
        promise12RoundTrip();
        promise12Gap();
        promise12NoGapBelowMark();
        promise12Timeout();
        promise12TimeoutBackoff();
        promise12Order();
        promise12BudgetAndDrops();
        promise12BudgetOfAllFlights();
        promise12Credit();
        promise12Threshold();
        promise12KinFeelLosses();
        promise12LateAfterClosing();
        promise12OrderOfAcknowledgements();
        CHECK.end();
    }

    private static void due(String call, long got, long want) {
        CHECK.due(call, got, want);
    }

    private static void properties(String when, ConnectionFamily f, int c, int... want) {
        for (int what = 0; what < want.length; what++) {
            due(when + ": property(" + c + ", " + what + ")", f.property(c, what), want[what]);
        }
    }

    private static void toldAll(String when, ConnectionFamily f, int... want) {
        for (int what = 0; what < want.length; what++) {
            due(when + ": told(" + what + ")", f.told(what), want[what]);
        }
    }

    private static void counts(String when, ConnectionFamily f, int c, int... want) {
        for (int what = 0; what < want.length; what++) {
            due(when + ": count(" + c + ", " + what + ")", f.count(c, what), want[what]);
        }
    }

    private static void promise01NewObject() {
        ConnectionFamily f = new ConnectionFamily();
        toldAll("new", f, 0, 40, 20, 2, 5, 1, 0, 0, 0, 32, 0, 0, 0);
        properties("new", f, 0, NONE, 1, 40, 40, 32, 32, 2, 0, 0, 0, 0, 10, NONE, NONE, 0, 0, 0);
        counts("new", f, 0, 0, 0, 0, 0, 0, 0);
        for (int c = 1; c <= 9; c++) {
            due("new: kin(" + c + ")", f.kin(c), BAD);
        }
        due("new: fault()", f.fault(), NONE);
        due("new: undo()", f.undo(), STATE);
        f.setBudget(7);
        f.open(0, 1);
        toldAll("another new one", new ConnectionFamily(), 0, 40, 20, 2, 5, 1, 0, 0, 0, 32, 0, 0, 0);
    }

    private static void promise02Type() {
        ConnectionFamily f = new ConnectionFamily();
        due("type(31)", f.type(31), BAD);
        due("type(127)", f.type(127), BAD);
        due("type(-1)", f.type(-1), BAD);
        due("type(32)", f.type(32), 1);
        due("type(126)", f.type(126), 2);
        for (int n = 3; n <= 60; n++) {
            due("type(65)", f.type(65), n);
        }
        due("61st type(65)", f.type(65), FULL);
        due("61st type(31)", f.type(31), BAD);
        due("told(12)", f.told(12), 60);
        due("told(11)", f.told(11), 0);
    }

    private static void promise03Clear() {
        ConnectionFamily f = new ConnectionFamily();
        due("clear() of nothing", f.clear(), 0);
        f.type(49);
        f.type(40);
        due("clear() of two", f.clear(), 2);
        due("told(12)", f.told(12), 0);
        due("type() after clear()", f.type(50), 1);
        due("load() of what came after", f.load(), 1);
        due("its weight", f.property(0, 1), 2);
    }

    private static void promise04Load() {
        ConnectionFamily f = new ConnectionFamily();
        due("load", Texts.load(f, " 2(3 1 (4) )"), 4);
        due("told(12)", f.told(12), 12);
        due("told(5)", f.told(5), 4);
        // 32 * 3 / 5 = 19, then 13 * 1 / 3 = 4, then 4 * 4 / 5 = 3
        properties("head", f, 0, NONE, 2, 40, 13, 9, 32);
        properties("first", f, 1, 0, 3, 20, 20, 19, 32);
        properties("second", f, 2, 0, 1, 7, 1, 1, 32);
        properties("third", f, 3, 2, 4, 6, 6, 3, 32);
        due("load again", f.load(), 4);
        due("told(11)", f.told(11), 2);
        due("load of ten", Texts.load(f, "1(23(4)5(6(7))8(9)1)"), 10);
        int[] parents = {NONE, 0, 0, 2, 0, 4, 5, 0, 7, 0};
        for (int c = 0; c <= 9; c++) {
            due("parent of " + c, f.property(c, 0), parents[c]);
        }
    }

    private static void promise04LoadStartsAnew() {
        ConnectionFamily f = new ConnectionFamily();
        f.setBudget(60);
        f.setLink(0, 3);
        f.setLink(1, 1);
        f.setLink(2, 12);
        f.open(0, 5);
        f.give(0, 50);
        f.give(1, 50);
        f.run(60);
        CHECK.holds("something was late", f.told(10) > 0);
        due("load", Texts.load(f, "4"), 1);
        toldAll("after load", f, 0, 60, 3, 1, 12, 1, 0, 0, 0, 32, 0, 5, 1);
        properties("after load", f, 0, NONE, 4, 60, 60, 32, 32, 2, 0, 0, 0, 0, 10, NONE, NONE, 0, 0, 0);
        counts("after load", f, 0, 0, 0, 0, 0, 0, 0);
        due("nothing comes", f.run(60), 0);
        due("nothing is late", f.told(10), 0);
        f.undo();
        due("undo() of load", f.undo(), 3);
        due("two again", f.told(5), 2);
        due("the clock again", f.told(0), 60);
    }

    private static void faultOf(String text, int at, int kind) {
        ConnectionFamily f = new ConnectionFamily();
        f.give(0, 3);
        f.run(2);
        due("load of '" + text + "'", Texts.load(f, text), -10 - at);
        due("fault() of '" + text + "'", f.fault(), kind);
        due("told(0) after '" + text + "'", f.told(0), 2);
        due("told(6) after '" + text + "'", f.told(6), 2);
        due("told(11) after '" + text + "'", f.told(11), 2);
        due("told(12) after '" + text + "'", f.told(12), text.length());
    }

    private static void promise04Faults() {
        faultOf("", 0, 1);
        faultOf("   ", 3, 1);
        faultOf("a", 0, 1);
        faultOf("(1)", 0, 1);
        faultOf(")", 0, 1);
        faultOf("0", 0, 2);
        faultOf(" 0", 1, 2);
        faultOf("1(", 2, 1);
        faultOf("1(2", 3, 1);
        faultOf("1(2 ", 4, 1);
        faultOf("1()", 2, 1);
        faultOf("1( )", 3, 1);
        faultOf("1 2", 2, 1);
        faultOf("10", 1, 1);
        faultOf("1)", 1, 1);
        faultOf("1(0)", 2, 2);
        faultOf("1(20)", 3, 2);
        faultOf("1(2(3)0)", 6, 2);
        faultOf("1(2)0", 4, 1);
        faultOf("1(2)3", 4, 1);
        faultOf("1(2)(3)", 4, 1);
        faultOf("1(2))", 4, 1);
        faultOf("1((2))", 2, 1);
        faultOf("1(2,3)", 3, 1);
        faultOf("1(2(3)(4))", 6, 1);
        faultOf("1(123456789 1)", 12, 3);
        faultOf("1(1234567890)", 11, 3);
        faultOf("1(123456789(0))", 12, 3);
        faultOf("1(123456789)0", 12, 1);
        faultOf("1(123456789)1", 12, 1);
        faultOf("1(123456789(", 12, 1);
        faultOf("1(1(1(1(1(", 9, 4);
        faultOf("1(1(1(1((", 8, 1);
        faultOf("1(1(1(1(1)(", 10, 1);
        faultOf("1(1(1(1 (1 (", 11, 4);
        ConnectionFamily f = new ConnectionFamily();
        due("four open ones are fine", Texts.load(f, "1(1(1(1(1 1)1(1))))"), 8);
        StringBuilder longest = new StringBuilder("1(");
        while (longest.length() < 60) {
            longest.append(' ');
        }
        faultOf(longest.toString(), 60, 1);
    }

    /** What an earlier text has left behind does not matter. */
    private static void promise04ReadsAnew() {
        ConnectionFamily f = new ConnectionFamily();
        String[] texts = {"5", "(1)", "1(2", ")", "2", "1(1(1(1(1", "3(4)", "1(123456789)", "123", "1(", "7", "", "8", "0"};
        int[] answers = {1, -10, -13, -10, 1, -19, 2, 10, -11, -12, 1, -10, 1, -10};
        int[] kinds = {NONE, 1, 1, 1, NONE, 1, NONE, NONE, 1, 1, NONE, 1, NONE, 2};
        for (int i = 0; i < texts.length; i++) {
            due("load of '" + texts[i] + "' behind others", Texts.load(f, texts[i]), answers[i]);
            due("fault() of '" + texts[i] + "' behind others", f.fault(), kinds[i]);
        }
    }

    private static void promise05Fault() {
        ConnectionFamily f = new ConnectionFamily();
        due("fault() before load()", f.fault(), NONE);
        Texts.load(f, "0");
        due("fault()", f.fault(), 2);
        f.clear();
        f.type(49);
        f.give(0, 1);
        f.undo();
        due("fault() after other calls", f.fault(), 2);
        f.load();
        due("fault() after a good load()", f.fault(), NONE);
        Texts.load(f, "x");
        due("fault() after a bad one", f.fault(), 1);
        f.undo();
        due("fault() after undo()", f.fault(), 1);
    }

    private static void promise06Open() {
        ConnectionFamily f = new ConnectionFamily();
        due("open(1, 1)", f.open(1, 1), BAD);
        due("open(-1, 1)", f.open(-1, 1), BAD);
        due("open(10, 1)", f.open(10, 1), BAD);
        due("open(0, 0)", f.open(0, 0), BAD);
        due("open(0, 10)", f.open(0, 10), BAD);
        due("told(11)", f.told(11), 0);
        due("open(0, 9)", f.open(0, 9), 1);
        due("32 * 9 / 10", f.property(1, CREDIT), 28);
        due("the rest", f.property(0, CREDIT), 4);
        due("open(1, 1)", f.open(1, 1), 2);
        due("open(0, 1)", f.open(0, 1), 3);
        due("close(1)", f.close(1), 0);
        due("the smallest number", f.open(3, 1), 1);
        due("its parent", f.property(1, 0), 3);
        for (int c = 4; c <= 9; c++) {
            due("open(0, 2)", f.open(0, 2), c);
        }
        due("an 11th", f.open(0, 2), FULL);
        due("an 11th of no weight", f.open(0, 0), BAD);
        due("an 11th of no parent", f.open(10, 1), BAD);
        due("told(11)", f.told(11), 5);
        due("told(9)", f.told(9), 32);
    }

    private static void promise06OpenInherits() {
        ConnectionFamily f = new ConnectionFamily();
        f.give(0, 1);
        f.run(6);
        f.open(0, 1);
        // one trip of 5 ticks: S 40, V 10; the credit grew to 48
        properties("parent", f, 0, NONE, 1, 40, 20, 24, 32, 1, 0, 0, 0, 0, 15, 40, 10, 1, 1, 0);
        properties("child", f, 1, 0, 1, 20, 20, 24, 32, 1, 0, 0, 0, 0, 25, 40, 20, 0, 0, 0);
        f.open(1, 2);
        properties("grandchild", f, 2, 1, 2, 13, 13, 16, 32, 1, 0, 0, 0, 0, 45, 40, 40, 0, 0, 0);
        f.give(2, 1);
        f.run(6);
        due("the first sample replaces S", f.property(2, S), 40);
        due("the first sample replaces V", f.property(2, V), 10);
        due("samples", f.property(2, SAMPLES), 1);

        ConnectionFamily g = new ConnectionFamily();
        g.setLink(2, 30);
        g.give(0, 4);
        g.run(11);
        due("penalty by a timeout", g.property(0, PENALTY), 4);
        g.open(0, 1);
        due("inherited penalty", g.property(1, PENALTY), 4);
        due("inherited threshold", g.property(1, THRESHOLD), 2);
        due("inherited credit", g.property(1, CREDIT), 8);
        due("no inherited backoff", g.property(1, BACKOFF), 0);
        due("no inherited mark", g.property(1, MARK), 0);
        due("no inherited backlog", g.property(1, BACKLOG), 0);
        due("no estimates", g.property(1, S), NONE);
    }

    private static void promise06OpenIsNew() {
        ConnectionFamily f = new ConnectionFamily();
        f.open(0, 1);
        f.setLink(0, 1);
        f.give(0, 1);
        f.give(1, 1);
        f.run(17);
        // the packet of 1 is dropped at tick 0, behind that of the head, and comes back after its timeout at tick 10
        counts("of the old one", f, 1, 2, 1, 1, 0, 1, 1);
        due("mark of the old one", f.property(1, MARK), 1);
        f.close(1);
        due("open(0, 1)", f.open(0, 1), 1);
        counts("of the new one", f, 1, 0, 0, 0, 0, 0, 0);
        due("next of the new one", f.property(1, NEXT), 0);
        due("mark of the new one", f.property(1, MARK), 0);
        due("samples of the new one", f.property(1, SAMPLES), 0);
    }

    private static void promise07Close() {
        ConnectionFamily f = new ConnectionFamily();
        due("close(0)", f.close(0), BAD);
        due("close(-1)", f.close(-1), BAD);
        due("close(10)", f.close(10), BAD);
        due("close(1)", f.close(1), BAD);
        f.open(0, 1);
        f.open(1, 1);
        f.open(2, 1);
        f.open(2, 1);
        due("close(2)", f.close(2), 1);
        due("its child", f.property(3, 0), 1);
        due("its other child", f.property(4, 0), 1);
        due("close(2) again", f.close(2), BAD);
        due("told(9)", f.told(9), 32);
        f.give(3, 1);
        f.run(1);
        due("close(3) with a flight", f.close(3), STATE);
        due("told(11)", f.told(11), 5);
        f.run(5);
        due("close(3) after its flight", f.close(3), 1);
    }

    private static void promise07CloseGivesBack() {
        ConnectionFamily f = new ConnectionFamily();
        f.open(0, 1);
        f.give(0, 30);
        f.give(1, 12);
        due("close(1)", f.close(1), 0);
        due("backlog", f.property(0, BACKLOG), 42);
        due("credit", f.property(0, CREDIT), 32);
        due("limit", f.property(0, 3), 40);
        f.open(0, 1);
        for (int i = 0; i < 19; i++) {
            f.give(0, 500);
        }
        f.give(1, 500);
        due("close(1)", f.close(1), 0);
        due("the backlog is 9999 at most", f.property(0, BACKLOG), 9999);

        ConnectionFamily g = new ConnectionFamily();
        g.open(0, 1);
        g.setLink(2, 30);
        g.give(1, 1);
        g.run(10);
        g.setLink(2, 1);
        g.run(1);
        due("penalty of the one", g.property(1, PENALTY), 4);
        due("penalty of its parent", g.property(0, PENALTY), 2);
        due("close(1) with a flight", g.close(1), STATE);
        g.run(1);
        due("close(1)", g.close(1), 0);
        due("the greater penalty", g.property(0, PENALTY), 4);
    }

    private static void promise07CloseMergesEstimates() {
        ConnectionFamily f = new ConnectionFamily();
        f.open(0, 1);
        f.give(0, 1);
        f.give(1, 1);
        f.run(6);
        f.setLink(2, 9);
        f.give(1, 1);
        f.run(10);
        // d = 9 - 5: S 40 + 4, V 10 + 4 - 2
        due("S of the one", f.property(1, S), 44);
        due("V of the one", f.property(1, V), 12);
        due("close(1)", f.close(1), 0);
        due("(1 * 40 + 2 * 44) / 3", f.property(0, S), 42);
        due("(1 * 10 + 2 * 12) / 3", f.property(0, V), 11);
        due("samples", f.property(0, SAMPLES), 3);
        due("credit", f.property(0, CREDIT), 80);
        f.open(0, 1);
        due("close(1) without samples", f.close(1), 0);
        due("S stays", f.property(0, S), 42);
        due("V stays", f.property(0, V), 11);

        f.open(0, 1);
        f.open(1, 1);
        f.give(2, 1);
        f.run(10);
        due("close(2)", f.close(2), 1);
        due("a parent without samples gets S", f.property(1, S), 72);
        due("a parent without samples gets V", f.property(1, V), 18);
        due("a parent without samples gets their number", f.property(1, SAMPLES), 1);

        ConnectionFamily g = new ConnectionFamily();
        g.open(0, 1);
        g.give(1, 1);
        g.run(6);
        g.close(1);
        due("a parent without estimates gets S", g.property(0, S), 40);
        due("a parent without estimates gets V", g.property(0, V), 10);
        g.open(0, 1);
        g.give(0, 40);
        g.give(1, 40);
        g.run(60);
        due("samples of the parent", g.property(0, SAMPLES), 16);
        due("close(1)", g.close(1), 0);
        due("samples are 16 at most", g.property(0, SAMPLES), 16);
    }

    private static void promise08Give() {
        ConnectionFamily f = new ConnectionFamily();
        due("give(0, 0)", f.give(0, 0), BAD);
        due("give(0, 501)", f.give(0, 501), BAD);
        due("give(0, -5)", f.give(0, -5), BAD);
        due("give(1, 1)", f.give(1, 1), BAD);
        due("give(-1, 1)", f.give(-1, 1), BAD);
        due("give(10, 1)", f.give(10, 1), BAD);
        due("told(11)", f.told(11), 0);
        due("give(0, 1)", f.give(0, 1), 1);
        for (int i = 1; i <= 19; i++) {
            due("give(0, 500)", f.give(0, 500), 1 + 500 * i);
        }
        due("give(0, 499)", f.give(0, 499), FULL);
        due("give(0, 0)", f.give(0, 0), BAD);
        due("give(0, 498)", f.give(0, 498), 9999);
        due("give(0, 1)", f.give(0, 1), FULL);
        due("property(0, 8)", f.property(0, BACKLOG), 9999);
    }

    private static void promise09SetWeight() {
        ConnectionFamily f = new ConnectionFamily();
        f.open(0, 3);
        due("setWeight(2, 1)", f.setWeight(2, 1), BAD);
        due("setWeight(-1, 1)", f.setWeight(-1, 1), BAD);
        due("setWeight(10, 1)", f.setWeight(10, 1), BAD);
        due("setWeight(0, 0)", f.setWeight(0, 0), BAD);
        due("setWeight(0, 10)", f.setWeight(0, 10), BAD);
        due("told(11)", f.told(11), 1);
        due("setWeight(1, 9)", f.setWeight(1, 9), 3);
        due("limit of 1", f.property(1, 3), 36);
        due("limit of 0", f.property(0, 3), 4);
        due("setWeight(0, 9)", f.setWeight(0, 9), 1);
        due("limit of 1", f.property(1, 3), 20);
        due("setWeight(0, 9) again", f.setWeight(0, 9), 9);
        due("told(11)", f.told(11), 4);
        due("credit stays", f.property(1, CREDIT), 24);
    }

    private static void promise10SetBudget() {
        ConnectionFamily f = new ConnectionFamily();
        due("setBudget(0)", f.setBudget(0), BAD);
        due("setBudget(201)", f.setBudget(201), BAD);
        due("setBudget(-1)", f.setBudget(-1), BAD);
        due("setBudget(200)", f.setBudget(200), 40);
        due("amount", f.property(0, 2), 200);
        f.give(0, 9);
        f.run(1);
        due("setBudget(1) with two in flight", f.setBudget(1), STATE);
        due("setBudget(0) with two in flight", f.setBudget(0), BAD);
        due("told(1)", f.told(1), 200);
        due("setBudget(2)", f.setBudget(2), 200);
        due("limit", f.property(0, 3), 2);
        due("told(11)", f.told(11), 4);
    }

    private static void promise11SetLink() {
        ConnectionFamily f = new ConnectionFamily();
        int[][] wrong = {{-1, 1}, {3, 1}, {0, 0}, {0, 61}, {1, 0}, {1, 9}, {2, 0}, {2, 31}, {0, -1}};
        for (int[] one : wrong) {
            due("setLink(" + one[0] + ", " + one[1] + ")", f.setLink(one[0], one[1]), BAD);
        }
        due("told(11)", f.told(11), 0);
        due("setLink(0, 60)", f.setLink(0, 60), 20);
        due("setLink(0, 1)", f.setLink(0, 1), 60);
        due("setLink(1, 8)", f.setLink(1, 8), 2);
        due("setLink(1, 1)", f.setLink(1, 1), 8);
        due("setLink(2, 30)", f.setLink(2, 30), 5);
        due("setLink(2, 1)", f.setLink(2, 1), 30);
        due("told(2)", f.told(2), 1);
        due("told(3)", f.told(3), 1);
        due("told(4)", f.told(4), 1);
    }

    private static ConnectionFamily nineChildren() {
        ConnectionFamily f = new ConnectionFamily();
        for (int c = 1; c <= 9; c++) {
            f.open(0, 1);
        }
        for (int c = 0; c <= 9; c++) {
            f.give(c, 1);
        }
        return f;
    }

    private static void promise11QueueStays() {
        ConnectionFamily f = nineChildren();
        f.run(1);
        due("queue", f.told(7), 8);
        f.setLink(0, 1);
        due("queue after a smaller capacity", f.told(7), 8);
        due("dropped for it", f.count(0, 5), 0);
        f.run(4);
        due("served", f.told(7), 0);
        due("on their way", f.told(8), 10);
    }

    private static void promise12RoundTrip() {
        ConnectionFamily f = new ConnectionFamily();
        due("run(0)", f.run(0), BAD);
        due("run(61)", f.run(61), BAD);
        due("run(-1)", f.run(-1), BAD);
        due("told(11)", f.told(11), 0);
        f.give(0, 3);
        due("run(1)", f.run(1), 0);
        // the window is 2: both are sent and served at tick 0, and come back at tick 5
        properties("after tick 0", f, 0, NONE, 1, 40, 40, 32, 32, 2, 2, 1, 0, 0, 10, NONE, NONE, 0, 2, 0);
        due("told(7)", f.told(7), 0);
        due("told(8)", f.told(8), 2);
        due("run(4)", f.run(4), 0);
        due("run(1)", f.run(1), 2);
        // both samples are 5: S 40, V 10 + 0 - 2; the third is sent at tick 5
        properties("after tick 5", f, 0, NONE, 1, 40, 40, 64, 32, 4, 1, 0, 0, 0, 13, 40, 8, 2, 3, 0);
        counts("after tick 5", f, 0, 3, 2, 0, 0, 0, 0);
        due("run(60)", f.run(60), 1);
        due("told(0)", f.told(0), 66);
        due("told(8)", f.told(8), 0);
        due("run(60)", f.run(60), 0);
    }

    /** Packet 1 overtakes packet 0, which was served with a longer delay. */
    private static ConnectionFamily overtaken() {
        ConnectionFamily f = new ConnectionFamily();
        f.give(0, 1);
        f.run(1);
        f.setLink(2, 1);
        f.give(0, 1);
        f.run(2);
        return f;
    }

    private static void promise12Gap() {
        ConnectionFamily f = overtaken();
        // tick 2: 0 is found lost; its successor 2 is sent at once
        counts("after tick 2", f, 0, 3, 1, 1, 1, 0, 0);
        properties("after tick 2", f, 0, NONE, 1, 40, 40, 32, 2, 1, 1, 0, 2, 0, 3, 8, 2, 1, 3, 2);
        due("told(10)", f.told(10), 0);
        due("run(2)", f.run(2), 1);
        due("told(10)", f.told(10), 0);
        due("run(1)", f.run(1), 0);
        due("the acknowledgement of 0 is late", f.told(10), 1);
        due("credit after a gap loss", f.property(0, CREDIT), 32 + 256 / 32);
        f.run(2);
        due("penalty until tick 8", f.property(0, PENALTY), 2);
        f.run(1);
        due("penalty after tick 8", f.property(0, PENALTY), 1);
        f.run(8);
        due("penalty after tick 16", f.property(0, PENALTY), 0);
        f.run(8);
        due("penalty after tick 24", f.property(0, PENALTY), 0);
    }

    /** Gives one packet, and lets it be served in the next tick with this delay. */
    private static void sendWithDelay(ConnectionFamily f, int c, int delay) {
        f.setLink(2, delay);
        f.give(c, 1);
        f.run(1);
    }

    private static void promise12NoGapBelowMark() {
        ConnectionFamily f = new ConnectionFamily();
        f.give(0, 2);
        f.run(6);
        sendWithDelay(f, 0, 30);
        sendWithDelay(f, 0, 4);
        sendWithDelay(f, 0, 30);
        sendWithDelay(f, 0, 4);
        f.run(2);
        // tick 11: the acknowledgement of 3 finds 2 lost; 4 and 5 fill the window
        counts("after tick 11", f, 0, 6, 3, 1, 1, 0, 0);
        properties("after tick 11", f, 0, NONE, 1, 40, 40, 32, 2, 1, 2, 1, 2, 0, 11, 39, 7, 3, 6, 6);
        f.run(2);
        // tick 13: that of 5 finds 4 lost, which was sent before the mark
        counts("after tick 13", f, 0, 7, 4, 2, 1, 0, 0);
        properties("after tick 13", f, 0, NONE, 1, 40, 40, 32, 2, 1, 1, 1, 2, 0, 10, 39, 6, 4, 7, 6);
    }

    private static void promise12Timeout() {
        ConnectionFamily f = new ConnectionFamily();
        f.setLink(2, 20);
        f.give(0, 3);
        f.run(10);
        counts("before tick 10", f, 0, 2, 0, 0, 0, 0, 0);
        due("due(0)", f.due(0), 10);
        f.run(1);
        // the window is 1 then
        counts("after tick 10", f, 0, 3, 0, 2, 0, 1, 0);
        properties("after tick 10", f, 0, NONE, 1, 40, 40, 16, 2, 1, 1, 2, 4, 1, 20, NONE, NONE, 0, 3, 2);
        due("inFlight(0, 0, 0)", f.inFlight(0, 0, 0), 2);
        due("inFlight(0, 0, 1)", f.inFlight(0, 0, 1), 10);
        due("run(10)", f.run(10), 0);
        due("two are late", f.told(10), 2);
        due("run(9)", f.run(9), 0);
        // tick 30: the acknowledgement of 2 comes before the timeout is looked for
        due("run(1)", f.run(1), 1);
        properties("after tick 30", f, 0, NONE, 1, 40, 40, 32, 2, 1, 1, 1, 2, 0, 60, 160, 40, 1, 4, 2);
    }

    private static void runUntil(ConnectionFamily f, int tick) {
        while (f.told(0) < tick) {
            f.run(Math.min(60, tick - f.told(0)));
        }
    }

    /** At each tick at which 1 sends, the head is the first and takes the only place of the queue. */
    private static void promise12TimeoutBackoff() {
        ConnectionFamily f = new ConnectionFamily();
        f.open(0, 1);
        f.setLink(0, 1);
        f.setLink(2, 1);
        f.give(1, 1);
        int[] timeouts = {10, 20, 40, 80, 160, 320, 400, 400};
        int tick = 0;
        for (int i = 0; i < timeouts.length; i++) {
            f.give(0, 1);
            f.run(1);
            due("dropped until " + tick, f.count(1, 5), i + 1);
            due("timeouts until " + tick, f.count(1, 4), i);
            due("backoff at " + tick, f.property(1, BACKOFF), Math.min(6, i));
            due("timeout at " + tick, f.property(1, TIMEOUT), timeouts[i]);
            tick += timeouts[i];
            due("due(1)", f.due(1), tick);
            runUntil(f, tick);
        }
        f.run(2);
        due("acknowledged", f.count(1, 1), 1);
        due("an acknowledgement ends the backoff", f.property(1, BACKOFF), 0);
        due("timeout by its sample", f.property(1, TIMEOUT), 3);
    }

    private static void promise12Order() {
        ConnectionFamily f = nineChildren();
        f.setLink(1, 1);
        f.run(1);
        for (int i = 0; i < 9; i++) {
            due("queued(" + i + ") after tick 0", f.queued(i), i + 1);
        }
        ConnectionFamily g = nineChildren();
        for (int i = 0; i < 5; i++) {
            g.undo();
        }
        g.run(7);
        for (int c = 5; c <= 9; c++) {
            g.give(c, 1);
        }
        due("one is still in flight", g.told(6), 1);
        g.setLink(1, 1);
        g.run(1);
        int[] order = {8, 9, 5, 6};
        for (int i = 0; i < 4; i++) {
            due("queued(" + i + ") after tick 7", g.queued(i), order[i]);
        }
        due("queued(4)", g.queued(4), NONE);
    }

    private static void promise12BudgetAndDrops() {
        ConnectionFamily f = nineChildren();
        f.setBudget(4);
        f.run(1);
        due("flights within the budget", f.told(6), 4);
        due("no limit, no window", f.property(9, WINDOW), 0);
        due("no flight", f.property(9, FLIGHT), 0);
        f.run(60);
        due("those without a limit send nothing", f.count(9, 0), 0);

        ConnectionFamily g = nineChildren();
        g.setLink(0, 3);
        g.run(1);
        due("queue of three less two", g.told(7), 1);
        due("all have sent", g.told(6), 10);
        for (int c = 0; c <= 9; c++) {
            due("dropped of " + c, g.count(c, 5), c < 3 ? 0 : 1);
        }
        due("run(10)", g.run(10), 3);
        due("timeouts of 9", g.count(9, 4), 1);
    }

    /** The head keeps its flight of 2 when its limit goes to its child, whose window of 4 would be too much then. */
    private static void promise12BudgetOfAllFlights() {
        ConnectionFamily f = new ConnectionFamily();
        for (int i = 0; i < 3; i++) {
            f.give(0, 2);
            f.run(6);
        }
        f.open(0, 1);
        f.setBudget(4);
        f.give(0, 5);
        f.run(1);
        due("flight of the head", f.property(0, FLIGHT), 2);
        f.setWeight(1, 9);
        f.give(1, 10);
        due("limit of the head", f.property(0, 3), 0);
        due("window of its child", f.property(1, WINDOW), 4);
        f.run(1);
        due("flight of its child", f.property(1, FLIGHT), 2);
        due("all flights", f.told(6), 4);
    }

    /** Both are at the edge of a quotient by 32. */
    private static void promise12Threshold() {
        for (int acknowledged = 28; acknowledged <= 29; acknowledged++) {
            ConnectionFamily f = new ConnectionFamily();
            f.setLink(2, 1);
            for (int i = 0; i < acknowledged; i++) {
                f.give(0, 1);
                f.run(2);
            }
            due("credit", f.property(0, CREDIT), 32 + 16 * acknowledged);
            sendWithDelay(f, 0, 30);
            f.run(2);
            due("no timeout yet", f.count(0, 4), 0);
            f.run(1);
            due("timeout", f.count(0, 4), 1);
            due("threshold by a timeout", f.property(0, THRESHOLD), 15);
            due("credit by a timeout", f.property(0, CREDIT), 16);
            f.undo();
            f.undo();
            sendWithDelay(f, 0, 1);
            f.run(1);
            due("gap", f.count(0, 3), 1);
            due("threshold by a gap", f.property(0, THRESHOLD), 15);
            due("credit by a gap", f.property(0, CREDIT), 240);
        }
    }

    private static void promise12Credit() {
        ConnectionFamily f = new ConnectionFamily();
        f.setLink(1, 8);
        f.setLink(2, 1);
        f.setBudget(200);
        for (int i = 1; i <= 15; i++) {
            f.give(0, 2);
            f.run(2);
            due("credit below the threshold", f.property(0, CREDIT), 32 + 32 * i);
        }
        f.give(0, 2);
        f.run(2);
        due("credit above the threshold", f.property(0, CREDIT), 514);
        for (int i = 0; i < 64; i++) {
            f.give(0, 8);
            f.run(2);
        }
        due("credit is 1024 at most", f.property(0, CREDIT), 1024);
        due("no loss", f.count(0, 2), 0);
        f.give(0, 100);
        f.run(1);
        due("the flight is the window", f.property(0, FLIGHT), 64);
        due("dropped", f.count(0, 5), 44);
    }

    private static void penalties(String when, ConnectionFamily f, int... want) {
        for (int c = 0; c < want.length; c++) {
            due(when + ": penalty of " + c, f.property(c, PENALTY), want[c]);
        }
    }

    private static void promise12KinFeelLosses() {
        ConnectionFamily f = new ConnectionFamily();
        Texts.load(f, "1(1(1(1)1)1(1))");
        f.setLink(2, 30);
        f.give(2, 1);
        f.run(11);
        // 2 has the parent 1, the child 3 and the sibling 4; 0, 5 and 6 are no kin of it
        penalties("timeout of 2", f, 0, 2, 4, 2, 2, 0, 0);
        f.run(50);
        due("timeouts of 2", f.count(2, 4), 2);

        ConnectionFamily g = new ConnectionFamily();
        g.give(0, 2);
        g.run(7);
        g.open(0, 1);
        g.open(0, 1);
        g.open(2, 1);
        sendWithDelay(g, 1, 9);
        sendWithDelay(g, 1, 1);
        g.run(1);
        due("gap losses of 1", g.count(1, 3), 1);
        penalties("gap of 1", g, 1, 2, 1, 0);

        ConnectionFamily h = nineChildren();
        h.setLink(2, 30);
        h.run(11);
        penalties("timeouts of all", h, 12, 12, 12, 12, 12, 12, 12, 12, 12, 12);
    }

    /** An acknowledgement is not taken for a packet of the same number of a new connection of the same number. */
    private static void promise12LateAfterClosing() {
        ConnectionFamily f = new ConnectionFamily();
        f.open(0, 1);
        f.setLink(2, 30);
        f.give(1, 1);
        f.run(10);
        f.setLink(2, 1);
        f.run(2);
        due("close(1)", f.close(1), 0);
        due("told(8)", f.told(8), 1);
        due("open(0, 1)", f.open(0, 1), 1);
        f.run(17);
        f.give(1, 1);
        f.setLink(2, 30);
        f.run(1);
        due("told(10) before", f.told(10), 0);
        due("inFlight(1, 0, 0)", f.inFlight(1, 0, 0), 0);
        due("run(1)", f.run(1), 0);
        due("told(10)", f.told(10), 1);
        due("inFlight(1, 0, 0)", f.inFlight(1, 0, 0), 0);
        counts("of the new one", f, 1, 1, 0, 0, 0, 0, 0);
    }

    private static void promise12OrderOfAcknowledgements() {
        ConnectionFamily f = new ConnectionFamily();
        f.setLink(2, 4);
        f.give(0, 1);
        f.run(1);
        f.setLink(2, 3);
        f.give(0, 1);
        f.run(1);
        due("both on their way", f.told(8), 2);
        due("both come at tick 4", f.run(3), 2);
        due("in the order of their service: no gap", f.count(0, 2), 0);
    }
}
