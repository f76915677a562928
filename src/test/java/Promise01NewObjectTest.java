/** Promise 1: what the four numbers of the constructor become, and that a new object is empty. */
public final class Promise01NewObjectTest {
    private static final int MIN = Integer.MIN_VALUE;
    private static final int MAX = Integer.MAX_VALUE;

    private static final Check check = new Check();

    public static void main(String[] args) {
        rules();
        degrees();
        latencies();
        sizes();
        empty();
        apart();
        check.end();
    }

    private static void rules() {
        int[] given = {0, 1, 2, 3, 4, 5, 6, 7, 8, 9, -1, -2, -3, -4, -5, -6, MIN, MAX, 1004};
        int[] due = {0, 1, 2, 3, 4, 0, 1, 2, 3, 4, 4, 3, 2, 1, 0, 4, 2, 2, 4};
        for (int k = 0; k < given.length; k++) {
            check.due("the rule of " + given[k], ruleSeen(given[k]), due[k]);
        }
    }

    /** Which rule an object has, told by what it knows. */
    private static int ruleSeen(int rule) {
        PrefetchRules x = new PrefetchRules(rule, 1, 32, 64);
        if (x.known(3) == PrefetchRules.NONE) {
            return 4;
        }
        if (x.known(3) == 1) {
            return 3;
        }
        x.access(3, 1000);
        if (x.known(3) == 1) {
            return 2;
        }
        x.access(3, 1007);
        return x.known(3) == 7 ? 1 : 0;
    }

    private static void degrees() {
        int[] given = {1, 2, 3, 4, 5, 8, 9, 0, -1, -2, -3, -4, MIN, MAX};
        int[] due = {1, 2, 3, 4, 1, 4, 1, 4, 3, 2, 1, 4, 4, 3};
        for (int k = 0; k < given.length; k++) {
            PrefetchRules x = new PrefetchRules(0, given[k], 1, 1);
            x.access(0, 0);
            check.due("the degree of " + given[k], x.count(8), due[k]);
        }
    }

    private static void latencies() {
        int[] given = {1, 2, 17, 31, 32, 33, 64, 65, 0, -1, -30, -31, -32, MIN, MAX};
        int[] due = {1, 2, 17, 31, 32, 1, 32, 1, 32, 31, 2, 1, 32, 32, 31};
        for (int k = 0; k < given.length; k++) {
            PrefetchRules x = new PrefetchRules(0, 1, given[k], 1);
            x.access(0, 0);
            check.due("the latency of " + given[k], x.queued(0, 1), due[k]);
        }
    }

    private static void sizes() {
        int[] given = {1, 2, 33, 63, 64, 65, 128, 129, 0, -1, -62, -63, -64, MIN, MAX};
        int[] due = {1, 2, 33, 63, 64, 1, 64, 1, 64, 63, 2, 1, 64, 64, 63};
        for (int k = 0; k < given.length; k++) {
            PrefetchRules x = new PrefetchRules(1, 1, 1, given[k]);
            for (int i = 0; i < 70; i++) {
                x.access(i, i);
            }
            check.due("the lines of " + given[k], x.count(10), due[k]);
        }
    }

    private static void empty() {
        int[] known = {0, 0, 0, 1, PrefetchRules.NONE};
        int[] trust = {0, 0, 0, 0, PrefetchRules.NONE};
        for (int rule = 0; rule < 5; rule++) {
            PrefetchRules x = new PrefetchRules(rule, 4, 5, 6);
            check.counts(x, new int[14]);
            check.store(x);
            check.queue(x);
            check.state(x, 0, 0);
            check.known(x, 0, known[rule]);
            check.trust(x, 0, trust[rule]);
            check.due("finish()", x.finish(), 0);
        }
    }

    private static void apart() {
        PrefetchRules x = new PrefetchRules(0, 1, 3, 4);
        PrefetchRules y = new PrefetchRules(0, 1, 3, 4);
        x.access(0, 1);
        check.counts(y, new int[14]);
        y.access(0, 50);
        check.store(x, 1);
        check.queue(x, 2);
    }
}
