import java.util.Random;

/** No call throws or fails to end, whatever its arguments are, also long after the 512th call. */
final class WildCallsTest {
    private static final int[] ODD = {Integer.MIN_VALUE, Integer.MIN_VALUE + 1, -1000, -11, -10, -9, -8, -2, -1, 0, 1, 2, 5, 8,
        9, 10, 11, 15, 16, 17, 30, 31, 32, 40, 41, 48, 57, 60, 61, 126, 127, 200, 201, 500, 501, 9999,
        Integer.MAX_VALUE - 1, Integer.MAX_VALUE};

    private WildCallsTest() {
    }

    public static void main(String[] args) {
        Check check = new Check();
        Random random = new Random(18506);
        for (int object = 0; object < 40; object++) {
            ConnectionFamily f = new ConnectionFamily();
            boolean isTame = object % 2 == 0;
            for (int i = 0; i < 5000; i++) {
                int method = random.nextInt(26);
                int[] a = {pick(random, isTame), pick(random, isTame), pick(random, isTame)};
                try {
                    call(f, method, a);
                } catch (RuntimeException | Error thrown) {
                    check.holds("method " + method + " of " + a[0] + ", " + a[1] + ", " + a[2] + " threw " + thrown, false);
                }
            }
            check.holds("flights within what is possible", f.told(6) <= 200);
            check.holds("queue within what is possible", f.told(7) <= 60);
            check.holds("acknowledgements within what is possible", f.told(8) <= 240);
        }
        check.end();
    }

    private static int pick(Random random, boolean isTame) {
        if (isTame && random.nextInt(10) > 0) {
            return random.nextInt(random.nextBoolean() ? 10 : 61);
        }
        return ODD[random.nextInt(ODD.length)];
    }

    private static void call(ConnectionFamily f, int method, int[] a) {
        switch (method) {
            case 0: f.type("123() 0".charAt(Math.floorMod(a[0], 7))); f.type(a[1]); break;
            case 1: f.clear(); break;
            case 2: f.load(); break;
            case 3: f.fault(); break;
            case 4: f.open(a[0], a[1]); break;
            case 5: f.close(a[0]); break;
            case 6: f.give(a[0], a[1]); break;
            case 7: f.setWeight(a[0], a[1]); break;
            case 8: f.setBudget(a[0]); break;
            case 9: f.setLink(a[0], a[1]); break;
            case 10: f.run(a[0]); break;
            case 11: f.property(a[0], a[1]); break;
            case 12: f.count(a[0], a[1]); break;
            case 13: f.told(a[0]); break;
            case 14: f.child(a[0], a[1]); break;
            case 15: f.kin(a[0]); break;
            case 16: f.distance(a[0], a[1]); break;
            case 17: f.inFlight(a[0], a[1], a[2]); break;
            case 18: f.queued(a[0]); break;
            case 19: f.due(a[0]); break;
            case 20: f.fairness(); break;
            case 21: f.ifBudget(a[0], a[1]); break;
            case 22: f.bestBudget(a[0]); break;
            case 23: f.ifOpened(a[0], a[1], a[2]); break;
            case 24: f.undo(); break;
            default: f.digest(); break;
        }
    }
}
