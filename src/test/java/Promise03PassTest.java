/** Promise 3: cycles without an access. */
public final class Promise03PassTest {
    private static final int[] WRONG = {0, -1, -100, 101, 102, 1000, Integer.MIN_VALUE, Integer.MAX_VALUE};

    private static final Check check = new Check();

    public static void main(String[] args) {
        check.sentence("So many cycles (1 .. 100) go by", Promise03PassTest::soManyCycles);
        check.sentence("without an access (step 1 alone)", Promise03PassTest::stepOneAlone);
        check.sentence("how many lines came", Promise03PassTest::howManyCame);
        check.sentence("IllegalArgumentException, when n is none of these.", Promise03PassTest::wrongNumbers);
        check.sentence("IllegalArgumentException, when n is none of these.", Promise03PassTest::refusedChangesNothing);
        check.end();
    }

    private static void soManyCycles() {
        PrefetchRules x = new PrefetchRules(0, 4, 32, 64);
        int cycles = 0;
        for (int n : new int[] {1, 2, 50, 99, 100}) {
            check.pass(x, n, 0);
            cycles += n;
            check.count(x, 9, cycles);
        }
        x.access(0, 10);
        check.count(x, 9, cycles + 1);
        check.queued(x, 0, 11, 32);
    }

    private static void stepOneAlone() {
        for (int rule = 0; rule < 5; rule++) {
            PrefetchRules x = new PrefetchRules(rule, 1, 1, 8);
            x.pass(100);
            check.count(x, 0, 0);
            check.store(x);
            check.queue(x);
        }
        // No candidate is tried, and the line before is still the line before.
        PrefetchRules x = new PrefetchRules(3, 1, 1, 8);
        x.access(0, 10);
        x.pass(100);
        x.pass(100);
        x.pass(100);
        check.counts(x, 1, 0, 0, 1, 0, 0, 0, 0, 1, 301, 2, 0, 1, 0);
        x.access(0, 12);
        check.trust(x, 1, 1);
        PrefetchRules y = new PrefetchRules(4, 1, 1, 8);
        y.access(0, 10);
        y.pass(3);
        y.access(0, 20);
        check.known(y, 10, 20);
        PrefetchRules z = new PrefetchRules(1, 1, 1, 8);
        z.access(5, 10);
        z.pass(3);
        z.access(5, 13);
        check.known(z, 5, 3);
    }

    private static void howManyCame() {
        PrefetchRules x = new PrefetchRules(0, 2, 5, 8);
        x.access(0, 10);
        check.pass(x, 1, 0);
        x.access(0, 20);
        check.pass(x, 2, 0);
        check.pass(x, 1, 2);
        check.store(x, 12, 11, 20, 10);
        check.state(x, 11, 2);
        check.state(x, 21, 3);
        check.pass(x, 1, 0);
        check.pass(x, 1, 2);
        check.counts(x, 2, 0, 0, 2, 0, 0, 0, 0, 4, 8, 6, 0, 4);
        // Fetches of several cycles, and all that the queue holds.
        PrefetchRules y = new PrefetchRules(0, 4, 32, 64);
        y.access(0, 10);
        y.pass(1);
        y.access(0, 20);
        check.pass(y, 100, 8);
        check.store(y, 24, 23, 22, 21, 14, 13, 12, 11, 20, 10);
        check.pass(y, 100, 0);
        // Those that drive one another out have come, too.
        PrefetchRules z = new PrefetchRules(0, 4, 1, 1);
        z.access(0, 10);
        check.pass(z, 1, 4);
        check.store(z, 14);
        check.count(z, 5, 3);
    }

    private static void wrongNumbers() {
        PrefetchRules x = new PrefetchRules(0, 2, 1, 8);
        for (int n : WRONG) {
            check.noPass(x, n);
        }
        check.pass(x, 1, 0);
        check.pass(x, 100, 0);
    }

    private static void refusedChangesNothing() {
        PrefetchRules x = new PrefetchRules(0, 2, 1, 8);
        x.access(0, 10);
        for (int n : WRONG) {
            check.noPass(x, n);
            check.counts(x, 1, 0, 0, 1, 0, 0, 0, 0, 2, 1, 1, 2, 0, 0);
            check.queued(x, 0, 11, 1);
            check.queue(x, 11, 12);
            check.store(x, 10);
        }
        check.pass(x, 1, 2);
    }
}
