/** Numbers that tell whether two states are the same. */
final class Prints {
    private Prints() {
    }

    /**
     * What undo() has to restore, as far as it is told: everything but the remembered states, the text buffer and the
     * fault. They are taken out of the digest, which is a sum of all values times powers of 31; so it takes few calls.
     */
    static long withoutHistory(ConnectionFamily f) {
        int values = 13 + 25 * f.told(5) + 2 * f.told(6) + f.told(7) + 2;
        long h = f.digest() - f.told(11) * power(values - 12) - f.told(12) * power(values - 13) - f.fault() * power(1);
        for (int budget : new int[] {3, 40, 200}) {
            h = 31 * h + f.ifBudget(budget, 60);
        }
        return h;
    }

    private static long power(int n) {
        long product = 1;
        for (int i = 0; i < n; i++) {
            product *= 31;
        }
        return product;
    }
}
