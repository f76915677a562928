/** Promise 10: the counts, each made to differ from the others. */
public final class Promise10CountTest {
    private static final Check check = new Check();

    public static void main(String[] args) {
        all();
        rounds();
        check.end();
    }

    private static void all() {
        PrefetchRules x = new PrefetchRules(0, 4, 2, 9);
        check.counts(x, new int[14]);
        check.access(x, 0, 10, 0);
        check.counts(x, 1, 0, 0, 1, 0, 0, 0, 0, 4, 1, 1, 4, 0, 0);
        check.access(x, 0, 11, 2);
        check.counts(x, 2, 0, 1, 1, 0, 0, 3, 0, 5, 2, 2, 4, 0, 0);
        check.access(x, 0, 12, 1);
        check.counts(x, 3, 1, 1, 1, 1, 0, 6, 0, 6, 3, 5, 2, 2, 0);
        check.access(x, 0, 12, 1);
        check.counts(x, 4, 2, 1, 1, 1, 0, 10, 0, 6, 4, 6, 1, 3, 0);
        check.access(x, 0, 50, 0);
        check.counts(x, 5, 2, 1, 2, 1, 0, 10, 0, 10, 5, 8, 4, 4, 0);
        check.access(x, 0, 60, 0);
        check.counts(x, 6, 2, 1, 3, 1, 0, 10, 0, 14, 6, 9, 8, 4, 0);
        check.store(x, 60, 50, 16, 12, 15, 14, 13, 11, 10);
        // 51 to 54 come and drive 10, 11, 13 and 14 out, and 70 drives 15 out.
        check.access(x, 0, 70, 0);
        check.counts(x, 7, 2, 1, 4, 1, 3, 10, 0, 18, 7, 9, 8, 5, 0);
        check.due("finish()", x.finish(), 13);
        check.counts(x, 7, 2, 1, 4, 1, 16, 10, 0, 18, 7, 9, 0, 0, 0);
        x.pass(100);
        check.count(x, 9, 107);
        for (int what : new int[] {-1, -2, 14, 15, 100, Integer.MIN_VALUE, Integer.MAX_VALUE}) {
            check.count(x, what, PrefetchRules.NONE);
        }
    }

    private static void rounds() {
        PrefetchRules x = new PrefetchRules(3, 1, 1, 4);
        for (int i = 1; i <= 480; i++) {
            x.access(0, 1000 * i);
            if (i % 240 < 2 || i % 240 == 239) {
                check.count(x, 13, i / 240);
            }
        }
        check.count(x, 8, 239);
    }
}
