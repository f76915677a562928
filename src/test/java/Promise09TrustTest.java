/** Promise 9: trust, ways, scores and older lines. */
public final class Promise09TrustTest {
    private static final Check check = new Check();

    public static void main(String[] args) {
        next();
        strides();
        streams();
        offsets();
        pairs();
        check.end();
    }

    private static void next() {
        PrefetchRules x = new PrefetchRules(0, 1, 1, 4);
        x.access(1, 5);
        x.access(1, 6);
        for (int of : new int[] {0, 1, 5, 6, -1, Integer.MIN_VALUE, Integer.MAX_VALUE}) {
            check.trust(x, of, 0);
        }
    }

    private static void strides() {
        PrefetchRules x = new PrefetchRules(1, 1, 1, 4);
        check.trust(x, 0, 0);
        int[] lines = {5, 8, 11, 14, 17, 20, 20, 20, 23, 0};
        int[] due = {0, 0, 1, 2, 3, 3, 2, 1, 2, 1};
        for (int k = 0; k < lines.length; k++) {
            x.access(16, lines[k]);
            check.trust(x, 16, due[k]);
            check.trust(x, 0, 0);
            check.trust(x, 32, 0);
        }
        x.access(0, 7);
        check.trust(x, 16, 0);
        check.trust(x, Integer.MIN_VALUE, 0);
    }

    private static void streams() {
        PrefetchRules x = new PrefetchRules(2, 1, 1, 4);
        check.trust(x, 0, 0);
        x.access(0, 10);
        x.access(0, 11);
        x.access(0, 50);
        x.access(0, 48);
        x.access(0, 90);
        check.trust(x, 0, 0);
        check.trust(x, 1, -1);
        check.trust(x, 2, 1);
        x.access(0, 13);
        check.trust(x, 0, 1);
        check.trust(x, 1, 0);
        check.trust(x, 2, -1);
        for (int of : new int[] {3, 7, 8, -1, Integer.MIN_VALUE, Integer.MAX_VALUE}) {
            check.trust(x, of, 0);
        }
    }

    private static void offsets() {
        PrefetchRules x = new PrefetchRules(3, 1, 1, 4);
        for (int i = 0; i < 24; i++) {
            x.access(0, i);
        }
        // In the first turn every candidate is greater than its line, so none scores before the second.
        for (int k = 0; k < 12; k++) {
            check.trust(x, k, 1);
        }
        x.access(0, 24);
        check.trust(x, 0, 2);
        for (int of : new int[] {12, 13, -1, Integer.MIN_VALUE, Integer.MAX_VALUE}) {
            check.trust(x, of, 0);
        }
    }

    private static void pairs() {
        PrefetchRules x = new PrefetchRules(4, 1, 1, 4);
        check.trust(x, 0, PrefetchRules.NONE);
        x.access(0, 1);
        x.access(0, 5);
        check.trust(x, 1, PrefetchRules.NONE);
        x.access(0, 1);
        x.access(0, 9);
        check.trust(x, 1, 5);
        check.trust(x, 65, PrefetchRules.NONE);
        check.trust(x, 5, PrefetchRules.NONE);
        x.access(0, 1);
        x.access(0, 9);
        check.trust(x, 1, 5);
        x.access(0, 1);
        x.access(0, 5);
        check.trust(x, 1, 9);
        check.trust(x, Integer.MIN_VALUE, PrefetchRules.NONE);
        check.trust(x, Integer.MAX_VALUE, PrefetchRules.NONE);
    }
}
