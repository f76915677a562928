/** The terms: the queue, and what becomes of a line that a rule says. */
public final class TermsQueueTest {
    private static final Check check = new Check();

    public static void main(String[] args) {
        check.sentence("THE QUEUE has 8 fetches at most", TermsQueueTest::atMostEight);
        check.sentence("each with a line and the cycle in which it comes", TermsQueueTest::lineAndCycle);
        check.sentence("The rule says some lines, one by one", TermsQueueTest::oneByOne);
        check.sentence("one that is in the store or the queue is FILTERED", TermsQueueTest::filtered);
        check.sentence("else, when the queue is full, DROPPED", TermsQueueTest::dropped);
        check.sentence("else it is behind the others in the queue", TermsQueueTest::behindTheOthers);
        check.sentence("comes in the cycle that is LATENCY more than this one", TermsQueueTest::latencyMore);
        check.end();
    }

    private static void atMostEight() {
        for (int degree = 1; degree <= 4; degree++) {
            PrefetchRules x = new PrefetchRules(0, degree, 32, 64);
            for (int i = 1; i <= 10; i++) {
                x.access(0, 100 * i);
                check.count(x, 11, Math.min(8, degree * i));
                check.count(x, 7, Math.max(0, degree * i - 8));
            }
            check.noneQueued(x, 8, 0);
        }
    }

    private static void lineAndCycle() {
        PrefetchRules x = new PrefetchRules(0, 1, 4, 8);
        x.access(0, 10);
        x.access(0, 20);
        x.access(0, 30);
        check.queued(x, 0, 11, 2);
        check.queued(x, 1, 21, 3);
        check.queued(x, 2, 31, 4);
        // The one in the middle goes: the others keep their lines and their cycles.
        check.access(x, 0, 21, 2);
        check.queued(x, 0, 11, 1);
        check.queued(x, 1, 31, 3);
        check.queued(x, 2, 22, 4);
        check.pass(x, 1, 1);
        check.pass(x, 1, 0);
        check.pass(x, 1, 1);
        check.pass(x, 1, 1);
    }

    private static void oneByOne() {
        // A stride of half the ints says the same two lines in turn: the second time they are there already.
        PrefetchRules x = new PrefetchRules(1, 4, 32, 1);
        int half = Integer.MIN_VALUE;
        x.access(0, 0);
        x.access(0, half);
        x.access(0, 0);
        check.queue(x);
        x.access(0, half);
        check.known(x, 0, half);
        check.queue(x, 0);
        check.count(x, 6, 3);
        check.count(x, 8, 1);
        // Of two lines the first one fills the queue.
        PrefetchRules y = new PrefetchRules(0, 3, 32, 64);
        y.access(0, 10);
        y.access(0, 20);
        y.access(0, 30);
        check.queue(y, 11, 12, 13, 21, 22, 23, 31, 32);
        check.count(y, 7, 1);
        check.count(y, 8, 8);
    }

    private static void filtered() {
        PrefetchRules x = new PrefetchRules(0, 4, 2, 64);
        x.access(0, 12);
        x.access(0, 9);
        // 12 is in the store, 13 is in the queue.
        check.queue(x, 13, 14, 15, 16, 10, 11);
        check.count(x, 6, 2);
        // 13 to 16 are in the store with their marks now; a mark is neither lost nor useful for being said.
        check.access(x, 0, 12, 1);
        check.count(x, 6, 6);
        check.state(x, 13, 2);
        check.count(x, 4, 0);
        // The queue keeps the cycle of a line that is said again.
        PrefetchRules y = new PrefetchRules(0, 1, 5, 8);
        y.access(0, 10);
        y.access(0, 10);
        check.queued(y, 0, 11, 4);
        check.count(y, 6, 1);
        check.count(y, 8, 1);
    }

    private static PrefetchRules full() {
        PrefetchRules x = new PrefetchRules(0, 4, 32, 64);
        x.access(0, 0);
        x.access(0, 100);
        check.queue(x, 1, 2, 3, 4, 101, 102, 103, 104);
        check.count(x, 7, 0);
        return x;
    }

    private static void dropped() {
        PrefetchRules x = full();
        x.access(0, 200);
        check.queue(x, 1, 2, 3, 4, 101, 102, 103, 104);
        check.count(x, 7, 4);
        check.count(x, 8, 8);
        check.state(x, 201, 0);
        // What is in the store or the queue is filtered, though the queue is full.
        PrefetchRules y = full();
        y.access(0, 98);
        check.count(y, 6, 3);
        check.count(y, 7, 1);
        // A late one leaves room for one line, the first that is neither stored nor queued.
        PrefetchRules z = full();
        check.access(z, 0, 2, 2);
        check.queue(z, 1, 3, 4, 101, 102, 103, 104, 5);
        check.count(z, 6, 2);
        check.count(z, 7, 1);
        // Fetches that come in this cycle leave room before the rule says its lines.
        PrefetchRules soon = new PrefetchRules(0, 4, 2, 64);
        soon.access(0, 0);
        soon.access(0, 100);
        check.count(soon, 11, 8);
        soon.access(0, 200);
        check.queue(soon, 101, 102, 103, 104, 201, 202, 203, 204);
        check.count(soon, 7, 0);
    }

    private static void behindTheOthers() {
        PrefetchRules x = new PrefetchRules(0, 2, 8, 64);
        x.access(0, 30);
        check.queue(x, 31, 32);
        x.access(0, 10);
        check.queue(x, 31, 32, 11, 12);
        x.access(0, 20);
        check.queue(x, 31, 32, 11, 12, 21, 22);
        check.count(x, 8, 6);
    }

    private static void latencyMore() {
        for (int latency = 1; latency <= 32; latency++) {
            PrefetchRules x = new PrefetchRules(0, 1, latency, 8);
            x.pass(7);
            x.access(0, 10);
            check.queued(x, 0, 11, latency);
            if (latency > 1) {
                check.pass(x, latency - 1, 0);
            }
            check.queued(x, 0, 11, 1);
            check.state(x, 11, 3);
            check.pass(x, 1, 1);
            check.state(x, 11, 2);
            check.count(x, 11, 0);
        }
    }
}
