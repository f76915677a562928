/** Promise 6: the lines of the store by their last use. */
public final class Promise06StoredTest {
    private static final Check check = new Check();

    public static void main(String[] args) {
        PrefetchRules x = new PrefetchRules(0, 1, 1, 3);
        wrong(x, 0);
        x.access(0, 10);
        check.due("stored(0)", x.stored(0), 10);
        wrong(x, 1);
        wrong(x, 2);
        wrong(x, 3);
        x.pass(1);
        check.store(x, 11, 10);
        x.access(0, -1);
        check.store(x, -1, 11, 10);
        x.access(0, 10);
        check.store(x, 10, 0, -1);
        for (int k : new int[] {-1, -2, 3, 4, 64, 100, Integer.MIN_VALUE, Integer.MAX_VALUE}) {
            wrong(x, k);
        }
        greatest();
        check.end();
    }

    private static void wrong(PrefetchRules x, int k) {
        check.dueThrow("stored(" + k + ")", IndexOutOfBoundsException.class, () -> x.stored(k));
    }

    private static void greatest() {
        PrefetchRules x = new PrefetchRules(1, 1, 1, 64);
        for (int i = 0; i < 70; i++) {
            x.access(i, i);
        }
        for (int k = 0; k < 64; k++) {
            check.due("stored(" + k + ")", x.stored(k), 69 - k);
        }
        wrong(x, 64);
    }
}
