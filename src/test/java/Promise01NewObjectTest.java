/** Promise 1: what the four numbers of the constructor become, and that a new object is empty. */
public final class Promise01NewObjectTest {
    private static final int MIN = Integer.MIN_VALUE;
    private static final int MAX = Integer.MAX_VALUE;

    private static final Check check = new Check();

    public static void main(String[] args) {
        check.sentence("The rule is rule modulo 5", Promise01NewObjectTest::rules);
        check.sentence("d is 1 + (degree - 1) modulo 4", Promise01NewObjectTest::degrees);
        check.sentence("the latency 1 + (latency - 1) modulo 32", Promise01NewObjectTest::latencies);
        check.sentence("N is 1 + (lines - 1) modulo 64", Promise01NewObjectTest::sizes);
        check.sentence("(rests not below 0)", Promise01NewObjectTest::restsNotBelowNought);
        check.sentence("A new object", Promise01NewObjectTest::empty);
        check.sentence("A new object", Promise01NewObjectTest::apart);
        check.end();
    }

    private static void rules() {
        for (int rule = 0; rule < 20; rule++) {
            ruleDue(rule, rule % 5);
        }
        ruleDue(1004, 4);
        ruleDue(MAX - 2, 0);
        ruleDue(MAX, 2);
    }

    private static void ruleDue(int given, int due) {
        check.due("the rule of " + given, ruleSeen(given), due);
    }

    /** Which rule an object has, told by what it knows. */
    private static int ruleSeen(int rule) {
        PrefetchRules x = new PrefetchRules(rule, 1, 32, 64);
        if (x.known(3) == PrefetchRules.NONE) {
            return 4;
        }
        if (x.known(3) == 1) {
            return 3;
        }
        x.access(3, 1000);
        if (x.known(3) == 1) {
            return 2;
        }
        x.access(3, 1007);
        return x.known(3) == 7 ? 1 : 0;
    }

    private static void degrees() {
        int[] given = {1, 2, 3, 4, 5, 6, 7, 8, 9, MAX - 3, MAX - 2, MAX};
        int[] due = {1, 2, 3, 4, 1, 2, 3, 4, 1, 4, 1, 3};
        for (int k = 0; k < given.length; k++) {
            degreeDue(given[k], due[k]);
        }
    }

    private static void degreeDue(int given, int due) {
        PrefetchRules x = new PrefetchRules(0, given, 1, 1);
        x.access(0, 0);
        check.due("the degree of " + given, x.count(8), due);
    }

    private static void latencies() {
        int[] given = {1, 2, 17, 31, 32, 33, 63, 64, 65, MAX - 31, MAX - 30, MAX};
        int[] due = {1, 2, 17, 31, 32, 1, 31, 32, 1, 32, 1, 31};
        for (int k = 0; k < given.length; k++) {
            latencyDue(given[k], due[k]);
        }
    }

    private static void latencyDue(int given, int due) {
        PrefetchRules x = new PrefetchRules(0, 1, given, 1);
        x.access(0, 0);
        check.due("the latency of " + given, x.queued(0, 1), due);
    }

    private static void sizes() {
        int[] given = {1, 2, 33, 63, 64, 65, 127, 128, 129, MAX - 63, MAX - 62, MAX};
        int[] due = {1, 2, 33, 63, 64, 1, 63, 64, 1, 64, 1, 63};
        for (int k = 0; k < given.length; k++) {
            sizeDue(given[k], due[k]);
        }
    }

    private static void sizeDue(int given, int due) {
        PrefetchRules x = new PrefetchRules(1, 1, 1, given);
        for (int i = 0; i < 70; i++) {
            x.access(i, i);
        }
        check.due("the lines of " + given, x.count(10), due);
    }

    private static void restsNotBelowNought() {
        int[] rules = {-1, -2, -3, -4, -5, -6, -10, MIN, MIN + 3};
        int[] ruleOf = {4, 3, 2, 1, 0, 4, 0, 2, 0};
        for (int k = 0; k < rules.length; k++) {
            ruleDue(rules[k], ruleOf[k]);
        }
        int[] degrees = {0, -1, -2, -3, -4, -7, MIN, MIN + 1};
        int[] degreeOf = {4, 3, 2, 1, 4, 1, 4, 1};
        for (int k = 0; k < degrees.length; k++) {
            degreeDue(degrees[k], degreeOf[k]);
        }
        int[] latencies = {0, -1, -30, -31, -32, -63, MIN, MIN + 1};
        int[] latencyOf = {32, 31, 2, 1, 32, 1, 32, 1};
        for (int k = 0; k < latencies.length; k++) {
            latencyDue(latencies[k], latencyOf[k]);
        }
        int[] sizes = {0, -1, -62, -63, -64, -127, MIN, MIN + 1};
        int[] sizeOf = {64, 63, 2, 1, 64, 1, 64, 1};
        for (int k = 0; k < sizes.length; k++) {
            sizeDue(sizes[k], sizeOf[k]);
        }
    }

    private static void empty() {
        int[] known = {0, 0, 0, 1, PrefetchRules.NONE};
        int[] trust = {0, 0, 0, 0, PrefetchRules.NONE};
        for (int rule = 0; rule < 5; rule++) {
            PrefetchRules x = new PrefetchRules(rule, 4, 5, 6);
            check.counts(x, new int[14]);
            check.store(x);
            check.queue(x);
            for (int of : new int[] {0, 1, -1, 11, 12, MIN, MAX}) {
                check.state(x, of, 0);
                check.known(x, of, known[rule]);
                check.trust(x, of, trust[rule]);
            }
            check.finish(x, 0);
            check.pass(x, 100, 0);
        }
    }

    private static void apart() {
        for (int rule = 0; rule < 5; rule++) {
            PrefetchRules x = new PrefetchRules(rule, 1, 3, 4);
            PrefetchRules y = new PrefetchRules(rule, 1, 3, 4);
            int known = y.known(7);
            for (int i = 0; i < 250; i++) {
                x.access(7, 7 + i % 3 * 64);
            }
            check.counts(y, new int[14]);
            check.known(y, 7, known);
            check.store(y);
            y.access(0, 50);
            check.state(x, 50, 0);
            check.count(x, 0, 250);
        }
    }
}
