/** Promise 10: the counts, each made to differ from the others. */
public final class Promise10CountTest {
    private static final Check check = new Check();

    public static void main(String[] args) {
        check.sentence("Accesses (0), hits (1), late ones (2), misses (3), useful (4), useless (5), filtered (6), "
                + "dropped (7), fetches so far (8), cycles (9), lines stored (10), queued (11), marks (12)",
                Promise10CountTest::all);
        check.sentence("dropped (7), fetches so far (8)", Promise10CountTest::droppedIsNoFetch);
        check.sentence("rounds (13)", Promise10CountTest::rounds);
        check.sentence("NONE for another what.", Promise10CountTest::another);
        check.end();
    }

    private static void all() {
        PrefetchRules x = new PrefetchRules(0, 4, 2, 9);
        check.counts(x, new int[14]);
        check.access(x, 0, 10, 0);
        check.counts(x, 1, 0, 0, 1, 0, 0, 0, 0, 4, 1, 1, 4, 0, 0);
        check.access(x, 0, 11, 2);
        check.counts(x, 2, 0, 1, 1, 0, 0, 3, 0, 5, 2, 2, 4, 0, 0);
        check.access(x, 0, 12, 1);
        check.counts(x, 3, 1, 1, 1, 1, 0, 6, 0, 6, 3, 5, 2, 2, 0);
        check.access(x, 0, 12, 1);
        check.counts(x, 4, 2, 1, 1, 1, 0, 10, 0, 6, 4, 6, 1, 3, 0);
        check.access(x, 0, 50, 0);
        check.counts(x, 5, 2, 1, 2, 1, 0, 10, 0, 10, 5, 8, 4, 4, 0);
        check.access(x, 0, 60, 0);
        check.counts(x, 6, 2, 1, 3, 1, 0, 10, 0, 14, 6, 9, 8, 4, 0);
        check.store(x, 60, 50, 16, 12, 15, 14, 13, 11, 10);
        // 51 to 54 come and drive 10, 11, 13 and 14 out, and 70 drives 15 out.
        check.access(x, 0, 70, 0);
        check.counts(x, 7, 2, 1, 4, 1, 3, 10, 0, 18, 7, 9, 8, 5, 0);
        check.finish(x, 13);
        check.counts(x, 7, 2, 1, 4, 1, 16, 10, 0, 18, 7, 9, 0, 0, 0);
        x.pass(100);
        check.counts(x, 7, 2, 1, 4, 1, 16, 10, 0, 18, 107, 9, 0, 0, 0);
    }

    private static void droppedIsNoFetch() {
        PrefetchRules x = new PrefetchRules(0, 3, 32, 64);
        x.access(0, 10);
        x.access(0, 20);
        check.counts(x, 2, 0, 0, 2, 0, 0, 0, 0, 6, 2, 2, 6, 0, 0);
        x.access(0, 30);
        check.counts(x, 3, 0, 0, 3, 0, 0, 0, 1, 8, 3, 3, 8, 0, 0);
        x.access(0, 40);
        check.counts(x, 4, 0, 0, 4, 0, 0, 0, 4, 8, 4, 4, 8, 0, 0);
    }

    private static void rounds() {
        PrefetchRules x = new PrefetchRules(3, 1, 1, 4);
        for (int i = 1; i <= 480; i++) {
            x.access(0, 1000 * i);
            if (i % 240 < 2 || i % 240 == 239) {
                check.count(x, 13, i / 240);
            }
        }
        check.count(x, 8, 239);
        // The other rules have no rounds.
        for (int rule : new int[] {0, 1, 2, 4}) {
            PrefetchRules y = new PrefetchRules(rule, 1, 1, 4);
            for (int i = 0; i < 500; i++) {
                y.access(0, i);
            }
            check.count(y, 13, 0);
        }
    }

    private static void another() {
        for (int rule = 0; rule < 5; rule++) {
            PrefetchRules x = new PrefetchRules(rule, 1, 1, 4);
            x.access(0, 10);
            for (int what : new int[] {-1, -2, 14, 15, 100, Integer.MIN_VALUE, Integer.MAX_VALUE}) {
                check.count(x, what, PrefetchRules.NONE);
            }
            check.count(x, 13, 0);
            check.count(x, 0, 1);
        }
    }
}
