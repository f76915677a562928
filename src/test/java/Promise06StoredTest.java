/** Promise 6: the lines of the store by their last use. */
public final class Promise06StoredTest {
    private static final Check check = new Check();

    public static void main(String[] args) {
        check.sentence("The k-th line of the store, the one used last first.", Promise06StoredTest::lastFirst);
        check.sentence("IndexOutOfBoundsException, when there is none.", Promise06StoredTest::none);
        check.sentence("IndexOutOfBoundsException, when there is none.", Promise06StoredTest::refusedChangesNothing);
        check.end();
    }

    private static void lastFirst() {
        PrefetchRules x = new PrefetchRules(0, 1, 1, 3);
        x.access(0, 10);
        check.store(x, 10);
        x.pass(1);
        check.store(x, 11, 10);
        x.access(0, -1);
        check.store(x, -1, 11, 10);
        x.access(0, 10);
        check.store(x, 10, 0, -1);
        PrefetchRules most = new PrefetchRules(1, 1, 1, 64);
        for (int i = 0; i < 70; i++) {
            most.access(i, i);
        }
        for (int k = 0; k < 64; k++) {
            check.due("stored(" + k + ")", most.stored(k), 69 - k);
        }
    }

    private static void none() {
        for (int n : new int[] {1, 2, 63, 64}) {
            PrefetchRules x = new PrefetchRules(1, 1, 1, n);
            check.noneStored(x, 0);
            for (int i = 0; i < n + 1; i++) {
                x.access(i, i);
                // The store may have room for more, but there is no such line yet.
                check.noneStored(x, x.count(10));
                check.noneStored(x, -1);
            }
            for (int k : new int[] {-2, -64, 64, 65, 100, Integer.MIN_VALUE, Integer.MAX_VALUE}) {
                check.noneStored(x, k);
            }
        }
    }

    private static void refusedChangesNothing() {
        PrefetchRules x = new PrefetchRules(0, 1, 1, 3);
        x.access(0, 10);
        for (int k : new int[] {-1, 1, 2, 3, Integer.MIN_VALUE, Integer.MAX_VALUE}) {
            check.noneStored(x, k);
            check.counts(x, 1, 0, 0, 1, 0, 0, 0, 0, 1, 1, 1, 1, 0, 0);
        }
        check.store(x, 10);
        check.queued(x, 0, 11, 1);
    }
}
