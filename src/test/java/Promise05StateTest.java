/** Promise 5: where a line is. */
public final class Promise05StateTest {
    private static final int MIN = Integer.MIN_VALUE;
    private static final int MAX = Integer.MAX_VALUE;

    private static final Check check = new Check();

    public static void main(String[] args) {
        check.sentence("Whether a line is in the store (1)", Promise05StateTest::inTheStore);
        check.sentence("with its mark (2)", Promise05StateTest::withItsMark);
        check.sentence("in the queue (3)", Promise05StateTest::inTheQueue);
        check.sentence("else 0", Promise05StateTest::nowhere);
        check.sentence("Whether a line is", Promise05StateTest::askingChangesNothing);
        check.end();
    }

    private static void inTheStore() {
        PrefetchRules x = new PrefetchRules(0, 1, 2, 64);
        for (int line : new int[] {10, 0, -3, MIN, MAX - 1}) {
            x.access(0, line);
            check.state(x, line, 1);
        }
        // Late and missed lines have no mark.
        check.access(x, 0, MAX, 2);
        check.state(x, MAX, 1);
        // The first and the last of a full store.
        PrefetchRules y = new PrefetchRules(1, 1, 1, 64);
        for (int i = 0; i < 64; i++) {
            y.access(i, 2 * i);
        }
        for (int i = 0; i < 64; i++) {
            check.state(y, 2 * i, 1);
            check.state(y, 2 * i + 1, 0);
        }
    }

    private static void withItsMark() {
        PrefetchRules x = new PrefetchRules(0, 2, 1, 3);
        x.access(0, -2);
        x.pass(1);
        check.state(x, -1, 2);
        check.state(x, 0, 2);
        check.state(x, -2, 1);
        check.access(x, 0, -1, 1);
        check.state(x, -1, 1);
        check.state(x, 0, 2);
        x.finish();
        check.state(x, 0, 1);
    }

    private static void inTheQueue() {
        PrefetchRules x = new PrefetchRules(0, 4, 32, 1);
        x.access(0, MAX);
        x.access(0, 100);
        for (int k = 0; k < 4; k++) {
            check.state(x, MIN + k, 3);
            check.state(x, 101 + k, 3);
        }
        // The one that the full queue dropped is nowhere.
        x.access(0, 200);
        check.state(x, 201, 0);
        check.access(x, 0, 101, 2);
        check.state(x, 101, 1);
        x.finish();
        check.state(x, 102, 0);
    }

    private static void nowhere() {
        PrefetchRules x = new PrefetchRules(0, 1, 2, 2);
        for (int line : new int[] {0, 1, -1, MIN, MAX}) {
            check.state(x, line, 0);
        }
        x.access(0, 10);
        x.access(0, 40);
        x.access(0, 70);
        // 10 went out of the store, and 11 came into it.
        check.store(x, 70, 11);
        check.state(x, 10, 0);
        check.state(x, 40, 0);
        for (int line : new int[] {0, 1, -1, 12, 69, MIN, MAX}) {
            check.state(x, line, 0);
        }
    }

    private static void askingChangesNothing() {
        PrefetchRules x = new PrefetchRules(0, 1, 2, 2);
        x.access(0, 10);
        x.pass(2);
        check.state(x, 10, 1);
        check.state(x, 10, 1);
        check.state(x, 11, 2);
        check.state(x, 11, 2);
        check.store(x, 11, 10);
        check.counts(x, 1, 0, 0, 1, 0, 0, 0, 0, 1, 3, 2, 0, 1, 0);
    }
}
