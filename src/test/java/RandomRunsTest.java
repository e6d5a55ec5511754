import java.util.Random;

/** Plays random runs on the class and on the model of the document, and compares all answers. */
final class RandomRunsTest {
    private static final String SIGNS = "123456789123456789    (((((()))))0x";
    private static final int[] ODD = {Integer.MIN_VALUE, -10, -9, -3, -2, -1, 0, 1, 9, 10, 11, 60, 61, 200, 201, 500,
        501, Integer.MAX_VALUE};

    private final Random random;
    private final Check check;
    private final StringBuilder told = new StringBuilder();
    private ConnectionFamily real = new ConnectionFamily();
    private Model model = new Model();
    /** How many of 100 arguments are taken from the odd ones. */
    private final int wildness;
    /** Which share of the calls are acts. */
    private final int eagerness;

    private RandomRunsTest(long seed, Check check) {
        random = new Random(seed);
        this.check = check;
        wildness = random.nextInt(4) == 0 ? 30 : 2;
        eagerness = 50 + random.nextInt(45);
    }

    public static void main(String[] args) {
        Check check = new Check();
        int runs = args.length > 0 ? Integer.parseInt(args[0]) : 1500;
        long first = args.length > 1 ? Long.parseLong(args[1]) : 0;
        for (long seed = first; seed < first + runs && !check.hasWrong(); seed++) {
            new RandomRunsTest(seed, check).play(seed % 50 == 0 ? 512 : 40 + (int) (seed % 100));
        }
        check.end();
    }

    private void play(int calls) {
        if (random.nextBoolean()) {
            narrowLink();
        }
        for (int i = 0; i < calls && !check.hasWrong(); i++) {
            if (random.nextInt(100) < eagerness) {
                act();
            } else {
                ask();
            }
            due("digest()", real.digest(), model.digest());
        }
        if (check.hasWrong()) {
            System.out.println(told);
        }
    }

    private void due(String call, long got, long want) {
        told.append(call).append(" = ").append(got).append('\n');
        check.due(call, got, want);
    }

    private int pick(int least, int most) {
        if (random.nextInt(100) < wildness) {
            return ODD[random.nextInt(ODD.length)];
        }
        return least + random.nextInt(most - least + 1);
    }

    private int pickOpen() {
        int c = pick(0, 9);
        for (int i = 0; i < 4 && model.kin(c) < 0; i++) {
            c = pick(0, 9);
        }
        return c;
    }

    private void narrowLink() {
        setLink(0, 1 + random.nextInt(4));
        setLink(1, 1 + random.nextInt(2));
        setLink(2, 1 + random.nextInt(30));
    }

    private void act() {
        switch (random.nextInt(20)) {
            case 0: case 1: open(pickOpen(), pick(1, 9)); break;
            case 2: case 3: close(pick(1, 9)); break;
            case 4: case 5: case 6: give(pickOpen(), random.nextBoolean() ? pick(1, 500) : pick(1, 12)); break;
            case 7: setWeight(pickOpen(), pick(1, 9)); break;
            case 8: setBudget(random.nextBoolean() ? pick(1, 200) : pick(1, 20)); break;
            case 9: setLink(0, random.nextBoolean() ? pick(1, 60) : pick(1, 5)); break;
            case 10: setLink(1, pick(1, 8)); break;
            case 11: setLink(2, pick(1, 30)); break;
            case 12: setLink(pick(0, 2), pick(1, 8)); break;
            case 13: undo(); break;
            case 14: if (random.nextInt(6) == 0) { loadText(); } break;
            default: run(random.nextBoolean() ? pick(1, 60) : pick(1, 9)); break;
        }
    }

    private void ask() {
        int a = pickOpen();
        int b = pickOpen();
        int i = pick(0, 12);
        switch (random.nextInt(14)) {
            case 0: due("property(" + a + ", " + i + ")", real.property(a, i), model.property(a, i)); break;
            case 1: due("count(" + a + ", " + i + ")", real.count(a, i), model.count(a, i)); break;
            case 2: due("told(" + i + ")", real.told(i), model.told(i)); break;
            case 3: due("child(" + a + ", " + i + ")", real.child(a, i), model.child(a, i)); break;
            case 4: due("kin(" + a + ")", real.kin(a), model.kin(a)); break;
            case 5: due("distance(" + a + ", " + b + ")", real.distance(a, b), model.distance(a, b)); break;
            case 6: askFlight(a, i, pick(0, 1)); break;
            case 7: due("queued(" + i + ")", real.queued(i), model.queued(i)); break;
            case 8: due("due(" + a + ")", real.due(a), model.due(a)); break;
            case 9: due("fairness()", real.fairness(), model.fairness()); break;
            case 10: askBudget(pick(1, 200), pick(1, 60)); break;
            case 11: askBest(pick(1, 15)); break;
            case 12: askOpened(a, pick(1, 9), random.nextBoolean() ? b : -9); break;
            default: due("fault()", real.fault(), model.fault()); break;
        }
    }

    private void askFlight(int c, int i, int what) {
        due("inFlight(" + c + ", " + i + ", " + what + ")", real.inFlight(c, i, what), model.inFlight(c, i, what));
    }

    private void askBudget(int budget, int ticks) {
        due("ifBudget(" + budget + ", " + ticks + ")", real.ifBudget(budget, ticks), model.ifBudget(budget, ticks));
    }

    private void askBest(int ticks) {
        due("bestBudget(" + ticks + ")", real.bestBudget(ticks), model.bestBudget(ticks));
    }

    private void askOpened(int parent, int weight, int c) {
        due("ifOpened(" + parent + ", " + weight + ", " + c + ")", real.ifOpened(parent, weight, c),
            model.ifOpened(parent, weight, c));
    }

    private void loadText() {
        due("clear()", real.clear(), model.clear());
        String text = random.nextInt(4) == 0 ? noise() : family();
        for (int i = 0; i < text.length(); i++) {
            int c = text.charAt(i);
            due("type(" + c + ")", real.type(c), model.type(c));
        }
        due("load()", real.load(), model.load());
        due("fault()", real.fault(), model.fault());
    }

    private String noise() {
        StringBuilder text = new StringBuilder();
        for (int i = random.nextInt(70); i > 0; i--) {
            text.append(SIGNS.charAt(random.nextInt(SIGNS.length())));
        }
        return text.toString();
    }

    /** A family, sometimes with a byte put in, changed or left out. */
    private String family() {
        StringBuilder text = new StringBuilder();
        addConnection(text, 0, 1 + random.nextInt(11));
        if (random.nextInt(3) == 0) {
            int at = random.nextInt(text.length());
            char sign = SIGNS.charAt(random.nextInt(SIGNS.length()));
            text.replace(at, at + random.nextInt(2), random.nextBoolean() ? "" : String.valueOf(sign));
        }
        return text.toString();
    }

    private void addConnection(StringBuilder text, int nesting, int members) {
        text.append(random.nextInt(6) == 0 ? " " : "").append(1 + random.nextInt(9));
        int left = members - 1;
        if (left == 0 || nesting > 5) {
            return;
        }
        text.append('(');
        while (left > 0) {
            int part = 1 + random.nextInt(left);
            addConnection(text, nesting + 1, part);
            left -= part;
        }
        text.append(random.nextInt(6) == 0 ? " )" : ")");
    }

    private void open(int parent, int weight) {
        due("open(" + parent + ", " + weight + ")", real.open(parent, weight), model.open(parent, weight));
    }

    private void close(int c) {
        due("close(" + c + ")", real.close(c), model.close(c));
    }

    private void give(int c, int n) {
        due("give(" + c + ", " + n + ")", real.give(c, n), model.give(c, n));
    }

    private void setWeight(int c, int weight) {
        due("setWeight(" + c + ", " + weight + ")", real.setWeight(c, weight), model.setWeight(c, weight));
    }

    private void setBudget(int b) {
        due("setBudget(" + b + ")", real.setBudget(b), model.setBudget(b));
    }

    private void setLink(int what, int v) {
        due("setLink(" + what + ", " + v + ")", real.setLink(what, v), model.setLink(what, v));
    }

    private void run(int ticks) {
        due("run(" + ticks + ")", real.run(ticks), model.run(ticks));
    }

    private void undo() {
        due("undo()", real.undo(), model.undo());
    }
}
