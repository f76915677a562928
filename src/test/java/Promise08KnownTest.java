/** Promise 8: what each rule knows. */
public final class Promise08KnownTest {
    private static final Check check = new Check();

    public static void main(String[] args) {
        next();
        strides();
        streams();
        offsets();
        pairs();
        check.end();
    }

    private static void next() {
        PrefetchRules x = new PrefetchRules(0, 1, 1, 4);
        x.access(1, 5);
        x.access(1, 8);
        for (int of : new int[] {0, 1, 5, 8, -1, Integer.MIN_VALUE, Integer.MAX_VALUE}) {
            check.known(x, of, 0);
        }
    }

    private static void strides() {
        PrefetchRules x = new PrefetchRules(1, 1, 1, 4);
        // A row that is nobody's is not the row of place 0.
        check.known(x, 0, 0);
        x.access(-1, 5);
        check.known(x, -1, 0);
        x.access(-1, 8);
        check.known(x, -1, 3);
        check.known(x, 15, 0);
        x.access(15, 8);
        check.known(x, -1, 0);
        x.access(15, 2);
        check.known(x, 15, -6);
        check.known(x, -1, 0);
        check.known(x, 31, 0);
        check.known(x, Integer.MAX_VALUE, 0);
    }

    private static void streams() {
        PrefetchRules x = new PrefetchRules(2, 1, 1, 4);
        check.known(x, 0, 0);
        for (int i = 1; i <= 10; i++) {
            x.access(0, 100 * i);
            check.known(x, 7 - i, Math.min(i, 8));
        }
        x.access(0, 1001);
        check.known(x, Integer.MIN_VALUE, 8);
        check.known(x, Integer.MAX_VALUE, 8);
    }

    private static void offsets() {
        PrefetchRules x = new PrefetchRules(3, 1, 1, 4);
        check.known(x, 0, 1);
        for (int i = 0; i < 240; i++) {
            check.known(x, i - 100, 1);
            x.access(0, 1000 * i);
        }
        check.known(x, 0, 0);
        check.known(x, -1, 0);
    }

    private static void pairs() {
        PrefetchRules x = new PrefetchRules(4, 1, 1, 4);
        check.known(x, 0, PrefetchRules.NONE);
        x.access(0, 0);
        check.known(x, 0, PrefetchRules.NONE);
        x.access(0, 9);
        check.known(x, 0, 9);
        check.known(x, 64, PrefetchRules.NONE);
        check.known(x, 9, PrefetchRules.NONE);
        x.access(0, -1);
        check.known(x, 9, -1);
        x.access(0, 63);
        check.known(x, -1, 63);
        check.known(x, 63, PrefetchRules.NONE);
        x.access(0, 7);
        check.known(x, 63, 7);
        check.known(x, -1, PrefetchRules.NONE);
        check.known(x, Integer.MIN_VALUE, PrefetchRules.NONE);
        check.known(x, Integer.MAX_VALUE, PrefetchRules.NONE);
    }
}
