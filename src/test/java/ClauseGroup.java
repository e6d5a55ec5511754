/** What the groups of tests by clauses share. Each of their tests names the words of the document that it is about. */
abstract class ClauseGroup {
    static final int BAD = -1, STATE = -2, FULL = -3, NONE = -9;
    static final int LEAST = Integer.MIN_VALUE, MOST = Integer.MAX_VALUE;
    static final int PARENT = 0, WEIGHT = 1, AMOUNT = 2, LIMIT = 3, CREDIT = 4, THRESHOLD = 5, WINDOW = 6, FLIGHT = 7,
        BACKLOG = 8, PENALTY = 9, BACKOFF = 10, TIMEOUT = 11, S = 12, V = 13, SAMPLES = 14, NEXT = 15, MARK = 16;
    static final int SENT = 0, ACKNOWLEDGED = 1, LOST = 2, GAPS = 3, TIMEOUTS = 4, DROPPED = 5;
    static final int CLOCK = 0, BUDGET = 1, CAPACITY = 2, RATE = 3, DELAY = 4, OPEN = 5, FLIGHTS = 6, QUEUE = 7,
        ON_WAY = 8, CREDITS = 9, LATE = 10, REMEMBERED = 11, BYTES = 12;

    interface Call {
        long on(ConnectionFamily f);
    }

    interface Maker {
        ConnectionFamily make();
    }

    private final Check check;
    private final Doc doc;
    private String about = "";

    ClauseGroup(Check check, Doc doc) {
        this.check = check;
        this.doc = doc;
    }

    abstract void all();

    /** Says which words of the document the answers after this are about. */
    final void clause(String section, String words) {
        about = section + ": " + words;
        check.holds("the document does not say under " + about, doc.says(section, words));
    }

    final void due(String call, long got, long want) {
        check.due(call + " (" + about + ")", got, want);
    }

    final void properties(String when, ConnectionFamily f, int what, int... want) {
        for (int c = 0; c < want.length; c++) {
            due(when + ": property(" + c + ", " + what + ")", f.property(c, what), want[c]);
        }
    }

    final void toldAll(String when, ConnectionFamily f, int... want) {
        for (int what = 0; what < want.length; what++) {
            due(when + ": told(" + what + ")", f.told(what), want[what]);
        }
    }

    /** The call is refused with that code in that state, and nothing is another then, neither now nor later. */
    final void refused(String call, Maker state, Call refused, long code) {
        due(call, refused.on(state.make()), code);
        changesNothing(call, state, refused);
    }

    final void changesNothing(String call, Maker state, Call harmless) {
        ConnectionFamily f = state.make();
        harmless.on(f);
        samePast(call, f, state.make());
        ConnectionFamily g = state.make();
        harmless.on(g);
        sameFuture(call, g, state.make());
    }

    private void samePast(String call, ConnectionFamily f, ConnectionFamily g) {
        due("digest() after " + call, f.digest(), g.digest());
        for (int i = 0; i < 6; i++) {
            due("undo() after " + call, f.undo(), g.undo());
            due("digest() after undo() after " + call, f.digest(), g.digest());
        }
        due("load() after " + call, f.load(), g.load());
        due("digest() after load() after " + call, f.digest(), g.digest());
    }

    private void sameFuture(String call, ConnectionFamily f, ConnectionFamily g) {
        due("run(60) after " + call, f.run(60), g.run(60));
        due("digest() after run(60) after " + call, f.digest(), g.digest());
        due("open(0, 5) after " + call, f.open(0, 5), g.open(0, 5));
        due("type(50) after " + call, f.type(50), g.type(50));
        due("run(60) later than " + call, f.run(60), g.run(60));
        due("digest() later than " + call, f.digest(), g.digest());
    }

    static ConnectionFamily fresh() {
        return new ConnectionFamily();
    }

    /** Four connections with flights, packets on the link, late ones, five remembered states, a text and a fault. */
    static ConnectionFamily busy() {
        ConnectionFamily f = new ConnectionFamily();
        Texts.load(f, "2(3(1)4)");
        f.setLink(0, 4);
        f.setLink(1, 1);
        f.setLink(2, 8);
        for (int c = 0; c <= 3; c++) {
            f.give(c, 200);
        }
        f.run(27);
        Texts.load(f, "1(");
        return f;
    }

    /** Ten connections, the head with the greatest backlog, and a full text buffer. */
    static ConnectionFamily full() {
        ConnectionFamily f = ofTen();
        fillBacklog(f, 0, 9999);
        f.clear();
        for (int i = 0; i < 60; i++) {
            f.type('1');
        }
        return f;
    }

    /** The head and nine children of it, all of weight 1, with a limit of 4 each. */
    static ConnectionFamily ofTen() {
        ConnectionFamily f = new ConnectionFamily();
        for (int c = 1; c <= 9; c++) {
            f.open(0, 1);
        }
        return f;
    }

    static void fillBacklog(ConnectionFamily f, int c, int most) {
        for (int left = most - f.property(c, BACKLOG); left > 0; left -= 500) {
            f.give(c, Math.min(500, left));
        }
    }

    /** A link on which nothing has to wait: a packet is acknowledged in the tick after it was sent. */
    static ConnectionFamily onFastLink() {
        ConnectionFamily f = new ConnectionFamily();
        f.setBudget(200);
        f.setLink(0, 60);
        f.setLink(1, 8);
        f.setLink(2, 1);
        return f;
    }

    /** Lets that many packets of a connection be acknowledged, one after the other. */
    static void trips(ConnectionFamily f, int c, int n) {
        for (int i = 0; i < n; i++) {
            f.give(c, 1);
            f.run(f.told(DELAY) + 1);
        }
    }

    /** Gives some packets at once, and runs until all are acknowledged. */
    static void deliver(ConnectionFamily f, int c, int n) {
        for (int left = n; left > 0; left -= 500) {
            f.give(c, Math.min(500, left));
        }
        for (int i = 0; i < 100 && f.property(c, BACKLOG) + f.property(c, FLIGHT) > 0; i++) {
            f.run(60);
        }
    }

    /** Gives one packet, and lets it be sent in the next tick, with this delay if it is served then. */
    static void sendWithDelay(ConnectionFamily f, int c, int delay) {
        f.setLink(2, delay);
        f.give(c, 1);
        f.run(1);
    }

    static void runUntil(ConnectionFamily f, int tick) {
        while (f.told(CLOCK) < tick) {
            f.run(Math.min(60, tick - f.told(CLOCK)));
        }
    }

    /** Packet 1 is dropped at tick 0, and found lost when 2 is acknowledged at tick 10. */
    static ConnectionFamily afterAGap() {
        ConnectionFamily f = new ConnectionFamily();
        f.setLink(0, 1);
        f.give(0, 10);
        f.run(11);
        return f;
    }

    /** A trip of 5, and a packet that is sent at tick 6 and found lost at tick 21. */
    static ConnectionFamily afterATimeout() {
        ConnectionFamily f = new ConnectionFamily();
        f.give(0, 1);
        f.run(6);
        f.setLink(2, 30);
        f.give(0, 1);
        f.run(16);
        return f;
    }

    /** The same, and a child of the head, which has had a trip of 1. */
    static ConnectionFamily withAChild() {
        ConnectionFamily f = afterATimeout();
        f.open(0, 1);
        f.setLink(2, 1);
        f.give(1, 1);
        f.run(2);
        return f;
    }

    /** Connections 0, 1 and 2 have sent a packet each at tick 0, and the link has served that of 0. */
    static ConnectionFamily threeInLine() {
        ConnectionFamily f = new ConnectionFamily();
        Texts.load(f, "1(1 1)");
        f.setLink(1, 1);
        f.setLink(2, 1);
        for (int c = 0; c <= 2; c++) {
            f.give(c, 1);
        }
        f.run(1);
        return f;
    }
}
