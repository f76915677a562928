/** Promise 2: the three steps of an access, told with rule 0; the other rules have tests of their own. */
public final class Promise02AccessTest {
    private static final Check check = new Check();

    public static void main(String[] args) {
        answers();
        lastUse();
        comingBeforeAsking();
        uselessOnes();
        lateOneDrivesOut();
        fullQueue();
        queueOrder();
        sumsWrap();
        check.end();
    }

    private static void answers() {
        PrefetchRules x = new PrefetchRules(0, 1, 2, 8);
        check.access(x, 0, 10, 0);
        check.state(x, 10, 1);
        check.state(x, 11, 3);
        check.access(x, 0, 11, 2);
        check.state(x, 11, 1);
        check.access(x, 0, 50, 0);
        check.state(x, 12, 3);
        check.access(x, 0, 12, 1);
        check.state(x, 12, 1);
        check.access(x, 0, 12, 1);
        check.counts(x, 5, 2, 1, 2, 1, 0, 1, 0, 4, 5);
    }

    private static void lastUse() {
        PrefetchRules x = new PrefetchRules(1, 1, 1, 3);
        check.access(x, 1, 10, 0);
        check.access(x, 2, 20, 0);
        check.access(x, 3, 30, 0);
        check.store(x, 30, 20, 10);
        check.access(x, 4, 10, 1);
        check.store(x, 10, 30, 20);
        check.access(x, 5, 30, 1);
        check.store(x, 30, 10, 20);
        check.access(x, 6, 30, 1);
        check.store(x, 30, 10, 20);
        check.access(x, 7, 40, 0);
        check.store(x, 40, 30, 10);
        check.access(x, 8, 20, 0);
        check.store(x, 20, 40, 30);
        check.count(x, 5, 0);
    }

    private static void comingBeforeAsking() {
        PrefetchRules x = new PrefetchRules(0, 1, 1, 2);
        check.access(x, 0, 10, 0);
        check.access(x, 0, 11, 1);
        check.count(x, 4, 1);
        check.store(x, 11, 10);
        check.access(x, 0, 11, 1);
        check.store(x, 11, 12);
        check.count(x, 4, 1);
    }

    private static void uselessOnes() {
        PrefetchRules x = new PrefetchRules(0, 1, 1, 2);
        x.access(0, 10);
        x.access(0, 11);
        check.access(x, 0, 50, 0);
        check.store(x, 50, 12);
        check.count(x, 5, 0);
        check.access(x, 0, 60, 0);
        check.store(x, 60, 51);
        check.count(x, 5, 1);
        // 61 comes first and drives 51 out, so 51 is no hit.
        check.access(x, 0, 51, 0);
        check.store(x, 51, 61);
        check.state(x, 61, 2);
        check.counts(x, 5, 1, 0, 4, 1, 2);

        PrefetchRules one = new PrefetchRules(0, 2, 1, 1);
        check.access(one, 0, 10, 0);
        check.access(one, 0, 10, 0);
        check.store(one, 10);
        check.counts(one, 2, 0, 0, 2, 0, 2, 0, 0, 4);
    }

    private static void lateOneDrivesOut() {
        PrefetchRules x = new PrefetchRules(0, 1, 3, 1);
        check.access(x, 0, 10, 0);
        check.access(x, 0, 11, 2);
        check.store(x, 11);
        check.queue(x, 12);
        check.count(x, 2, 1);
        check.count(x, 5, 0);
        // The line that was late does not come again in its cycle.
        check.due("pass(2)", x.pass(2), 0);
        check.due("pass(1)", x.pass(1), 1);
        check.store(x, 12);
    }

    private static void fullQueue() {
        PrefetchRules x = new PrefetchRules(0, 4, 32, 64);
        x.access(0, 0);
        x.access(0, 100);
        check.queue(x, 1, 2, 3, 4, 101, 102, 103, 104);
        x.access(0, 200);
        check.count(x, 7, 4);
        check.count(x, 8, 8);
        check.count(x, 6, 0);
        // What is filtered is not dropped, though the queue is full.
        x.access(0, 0);
        check.count(x, 6, 4);
        check.count(x, 7, 4);
        x.access(0, 99);
        check.count(x, 6, 8);
        check.count(x, 7, 4);
        // A late one leaves a gap for one line.
        check.access(x, 0, 2, 2);
        check.queue(x, 1, 3, 4, 101, 102, 103, 104, 5);
        check.count(x, 6, 10);
        check.count(x, 7, 5);
        check.count(x, 8, 9);
    }

    private static void queueOrder() {
        PrefetchRules x = new PrefetchRules(0, 3, 2, 8);
        x.access(0, 10);
        x.access(0, 20);
        check.queue(x, 11, 12, 13, 21, 22, 23);
        x.access(0, 30);
        check.store(x, 30, 13, 12, 11, 20, 10);
        check.queue(x, 21, 22, 23, 31, 32, 33);
        check.access(x, 0, 12, 1);
        check.store(x, 12, 23, 22, 21, 30, 13, 11, 20);
        check.queue(x, 31, 32, 33, 14, 15);
        check.counts(x, 4, 1, 0, 3, 1, 0, 1, 0, 11, 4, 8, 5, 5);
    }

    private static void sumsWrap() {
        PrefetchRules x = new PrefetchRules(0, 2, 1, 8);
        check.access(x, 0, Integer.MAX_VALUE, 0);
        check.queue(x, Integer.MIN_VALUE, Integer.MIN_VALUE + 1);
        check.access(x, 0, -2, 0);
        check.state(x, Integer.MIN_VALUE, 2);
        check.queue(x, -1, 0);
        check.access(x, 0, -1, 1);
        check.state(x, -1, 1);
    }
}
