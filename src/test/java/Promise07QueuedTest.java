/** Promise 7: the fetches of the queue and when they come. */
public final class Promise07QueuedTest {
    private static final int[] ENDS = {Integer.MIN_VALUE, Integer.MAX_VALUE};

    private static final Check check = new Check();

    public static void main(String[] args) {
        check.sentence("Of the k-th fetch of the queue its line (what 0)", Promise07QueuedTest::lines);
        check.sentence("in how many cycles it comes (1)", Promise07QueuedTest::cycles);
        check.sentence("IndexOutOfBoundsException, when there is none", Promise07QueuedTest::none);
        check.sentence("or for another what", Promise07QueuedTest::anotherWhat);
        check.sentence("Of several exceptions the first one told is thrown.", Promise07QueuedTest::bothWrong);
        check.sentence("IndexOutOfBoundsException", Promise07QueuedTest::refusedChangesNothing);
        check.end();
    }

    private static void lines() {
        PrefetchRules x = new PrefetchRules(0, 4, 32, 1);
        x.access(0, -2);
        check.queue(x, -1, 0, 1, 2);
        x.access(0, Integer.MAX_VALUE - 2);
        check.queue(x, -1, 0, 1, 2, Integer.MAX_VALUE - 1, Integer.MAX_VALUE, Integer.MIN_VALUE,
                Integer.MIN_VALUE + 1);
    }

    private static void cycles() {
        PrefetchRules x = new PrefetchRules(0, 2, 5, 8);
        x.access(0, 10);
        check.queued(x, 0, 11, 5);
        check.queued(x, 1, 12, 5);
        x.pass(3);
        check.queued(x, 0, 11, 2);
        x.access(0, 20);
        check.queued(x, 0, 11, 1);
        check.queued(x, 1, 12, 1);
        check.queued(x, 2, 21, 5);
        check.queued(x, 3, 22, 5);
        // The one that was late goes; those behind it move up with their cycles.
        check.access(x, 0, 21, 2);
        check.queued(x, 0, 22, 4);
        check.queued(x, 1, 23, 5);
        // The least and the most, and a full queue.
        PrefetchRules full = new PrefetchRules(0, 4, 32, 1);
        full.access(0, 0);
        check.queued(full, 0, 1, 32);
        full.access(0, 10);
        full.access(0, 20);
        check.queued(full, 0, 1, 30);
        check.queued(full, 7, 14, 31);
        full.pass(29);
        check.queued(full, 0, 1, 1);
        full.pass(1);
        check.queued(full, 0, 11, 1);
        check.queued(full, 3, 14, 1);
        check.noneQueued(full, 4, 0);
    }

    private static void none() {
        PrefetchRules x = new PrefetchRules(0, 1, 32, 8);
        for (int i = 0; i <= 8; i++) {
            for (int what = 0; what <= 1; what++) {
                check.noneQueued(x, i, what);
                check.noneQueued(x, -1, what);
                check.noneQueued(x, 8, what);
                check.noneQueued(x, 9, what);
                for (int k : ENDS) {
                    check.noneQueued(x, k, what);
                }
            }
            x.access(0, 10 * i);
        }
        x.pass(24);
        check.count(x, 11, 7);
        check.noneQueued(x, 7, 0);
        x.finish();
        check.noneQueued(x, 0, 0);
        check.noneQueued(x, 0, 1);
    }

    private static void anotherWhat() {
        PrefetchRules x = new PrefetchRules(0, 4, 32, 8);
        x.access(0, 10);
        for (int what : new int[] {-1, 2, 3, Integer.MIN_VALUE, Integer.MAX_VALUE}) {
            check.noneQueued(x, 0, what);
            check.noneQueued(x, 3, what);
        }
    }

    private static void bothWrong() {
        PrefetchRules x = new PrefetchRules(0, 4, 32, 8);
        check.noneQueued(x, 0, 2);
        x.access(0, 10);
        check.noneQueued(x, 4, 2);
        check.noneQueued(x, -1, -1);
        for (int k : ENDS) {
            for (int what : ENDS) {
                check.noneQueued(x, k, what);
            }
        }
    }

    private static void refusedChangesNothing() {
        PrefetchRules x = new PrefetchRules(0, 1, 3, 4);
        x.access(0, 10);
        check.noneQueued(x, -1, 0);
        check.noneQueued(x, 1, 1);
        check.noneQueued(x, 0, 2);
        check.counts(x, 1, 0, 0, 1, 0, 0, 0, 0, 1, 1, 1, 1, 0, 0);
        check.queued(x, 0, 11, 3);
        check.store(x, 10);
    }
}
