/** Promise 3: cycles without an access. */
public final class Promise03PassTest {
    private static final Check check = new Check();

    public static void main(String[] args) {
        comesInItsCycle();
        theMost();
        drivesOut();
        learnsNothing();
        wrongNumbers();
        check.end();
    }

    private static void comesInItsCycle() {
        PrefetchRules x = new PrefetchRules(0, 2, 5, 8);
        x.access(0, 10);
        check.due("pass(1)", x.pass(1), 0);
        x.access(0, 20);
        check.due("pass(2)", x.pass(2), 0);
        check.due("pass(1)", x.pass(1), 2);
        check.store(x, 12, 11, 20, 10);
        check.state(x, 11, 2);
        check.state(x, 21, 3);
        check.due("pass(1)", x.pass(1), 0);
        check.due("pass(1)", x.pass(1), 2);
        check.counts(x, 2, 0, 0, 2, 0, 0, 0, 0, 4, 8, 6, 0, 4);
    }

    private static void theMost() {
        PrefetchRules x = new PrefetchRules(0, 4, 32, 64);
        x.access(0, 10);
        x.access(0, 20);
        check.due("pass(100)", x.pass(100), 8);
        check.count(x, 9, 102);
        check.store(x, 24, 23, 22, 21, 14, 13, 12, 11, 20, 10);
        check.due("pass(100)", x.pass(100), 0);
        check.count(x, 9, 202);
        check.count(x, 0, 2);
    }

    private static void drivesOut() {
        PrefetchRules x = new PrefetchRules(0, 4, 1, 2);
        x.access(0, 10);
        check.due("pass(1)", x.pass(1), 4);
        check.store(x, 14, 13);
        check.count(x, 5, 2);
        check.count(x, 12, 2);
    }

    private static void learnsNothing() {
        PrefetchRules x = new PrefetchRules(3, 1, 1, 8);
        x.access(0, 10);
        x.pass(100);
        x.pass(100);
        x.pass(100);
        check.count(x, 13, 0);
        check.count(x, 8, 1);
        PrefetchRules y = new PrefetchRules(4, 1, 1, 8);
        y.access(0, 10);
        y.pass(3);
        y.access(0, 20);
        check.known(y, 10, 20);
    }

    private static void wrongNumbers() {
        PrefetchRules x = new PrefetchRules(0, 2, 1, 8);
        x.access(0, 10);
        for (int n : new int[] {0, -1, 101, 102, 1000, Integer.MIN_VALUE, Integer.MAX_VALUE}) {
            check.dueThrow("pass(" + n + ")", IllegalArgumentException.class, () -> x.pass(n));
        }
        check.count(x, 9, 1);
        check.queue(x, 11, 12);
        check.store(x, 10);
        check.due("pass(1)", x.pass(1), 2);
    }
}
