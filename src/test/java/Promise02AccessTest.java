/** Promise 2: one access, told with rule 0; the store, the queue and the other rules have tests of their own. */
public final class Promise02AccessTest {
    private static final Check check = new Check();

    public static void main(String[] args) {
        check.sentence("ONE ACCESS, [..] is one cycle (the first is cycle 1).", Promise02AccessTest::oneCycle);
        check.sentence("Fetches whose cycle is there come", Promise02AccessTest::comesInItsCycle);
        check.sentence("in the queue's order", Promise02AccessTest::inTheQueuesOrder);
        check.sentence("with a mark", Promise02AccessTest::withMark);
        check.sentence("The line is in the store: HIT (1)", Promise02AccessTest::hit);
        check.sentence("it is the one used last", Promise02AccessTest::usedLast);
        check.sentence("when it has its mark, that goes (USEFUL)", Promise02AccessTest::useful);
        check.sentence("Else it is in the queue: LATE (2)", Promise02AccessTest::late);
        check.sentence("it leaves the queue and comes without a mark", Promise02AccessTest::leavesTheQueue);
        check.sentence("Else MISS (0); it comes without a mark.", Promise02AccessTest::miss);
        check.sentence("One access: 0, 1, 2 as told.", Promise02AccessTest::answers);
        check.end();
    }

    private static void oneCycle() {
        PrefetchRules x = new PrefetchRules(0, 1, 1, 8);
        check.count(x, 9, 0);
        check.access(x, 0, 10, 0);
        check.count(x, 9, 1);
        check.access(x, 0, 11, 1);
        check.count(x, 9, 2);
        check.access(x, 0, 11, 1);
        check.count(x, 9, 3);
        check.count(x, 0, 3);
        PrefetchRules late = new PrefetchRules(0, 1, 9, 8);
        late.access(0, 10);
        check.access(late, 0, 11, 2);
        check.count(late, 9, 2);
    }

    private static void comesInItsCycle() {
        // 11 comes in cycle 3: in cycle 2 it is late, in cycle 3 and later it is there before it is asked for.
        PrefetchRules early = new PrefetchRules(0, 1, 2, 8);
        early.access(0, 10);
        check.access(early, 0, 11, 2);
        PrefetchRules just = new PrefetchRules(0, 1, 2, 8);
        just.access(0, 10);
        just.access(0, 50);
        check.access(just, 0, 11, 1);
        PrefetchRules next = new PrefetchRules(0, 1, 1, 8);
        next.access(0, 10);
        check.access(next, 0, 11, 1);
        // It drives out the very line that is asked for.
        PrefetchRules one = new PrefetchRules(0, 2, 1, 1);
        check.access(one, 0, 10, 0);
        check.access(one, 0, 10, 0);
        check.store(one, 10);
        check.counts(one, 2, 0, 0, 2, 0, 2, 0, 0, 4);
        // Nothing comes twice.
        PrefetchRules once = new PrefetchRules(0, 1, 1, 1);
        once.access(0, 10);
        check.pass(once, 1, 1);
        check.pass(once, 1, 0);
    }

    private static void inTheQueuesOrder() {
        PrefetchRules x = new PrefetchRules(0, 3, 2, 8);
        x.access(0, 10);
        x.access(0, 20);
        check.queue(x, 11, 12, 13, 21, 22, 23);
        x.access(0, 30);
        check.store(x, 30, 13, 12, 11, 20, 10);
        check.queue(x, 21, 22, 23, 31, 32, 33);
        check.access(x, 0, 12, 1);
        check.store(x, 12, 23, 22, 21, 30, 13, 11, 20);
        check.queue(x, 31, 32, 33, 14, 15);
        check.counts(x, 4, 1, 0, 3, 1, 0, 1, 0, 11, 4, 8, 5, 5);
    }

    private static void withMark() {
        PrefetchRules x = new PrefetchRules(0, 2, 1, 8);
        x.access(0, 10);
        x.access(0, 50);
        check.state(x, 11, 2);
        check.state(x, 12, 2);
        check.count(x, 12, 2);
    }

    private static void hit() {
        PrefetchRules x = new PrefetchRules(1, 1, 1, 2);
        x.access(1, 10);
        check.access(x, 2, 10, 1);
        x.access(3, 20);
        check.access(x, 4, 10, 1);
        check.access(x, 5, 20, 1);
        check.store(x, 20, 10);
        check.counts(x, 5, 3, 0, 2);
    }

    private static void usedLast() {
        PrefetchRules x = new PrefetchRules(1, 1, 1, 3);
        x.access(1, 10);
        x.access(2, 20);
        x.access(3, 30);
        x.access(4, 10);
        check.store(x, 10, 30, 20);
        x.access(5, 30);
        check.store(x, 30, 10, 20);
        x.access(6, 30);
        check.store(x, 30, 10, 20);
    }

    private static void useful() {
        PrefetchRules x = new PrefetchRules(0, 1, 1, 2);
        check.access(x, 0, 10, 0);
        check.count(x, 4, 0);
        check.access(x, 0, 11, 1);
        check.count(x, 4, 1);
        check.state(x, 11, 1);
        check.store(x, 11, 10);
        // The mark has gone: the second use is not useful again.
        check.access(x, 0, 11, 1);
        check.count(x, 4, 1);
        check.count(x, 1, 2);
        check.store(x, 11, 12);
        // A hit of a line that was never fetched is not useful.
        PrefetchRules y = new PrefetchRules(0, 1, 32, 4);
        y.access(0, 10);
        check.access(y, 0, 10, 1);
        check.count(y, 4, 0);
    }

    private static void late() {
        PrefetchRules x = new PrefetchRules(0, 1, 3, 1);
        check.access(x, 0, 10, 0);
        check.access(x, 0, 11, 2);
        check.store(x, 11);
        check.counts(x, 2, 0, 1, 1, 0, 0);
        check.access(x, 0, 12, 2);
        check.count(x, 2, 2);
    }

    private static void leavesTheQueue() {
        PrefetchRules x = new PrefetchRules(0, 1, 3, 2);
        x.access(0, 10);
        x.access(0, 11);
        check.queue(x, 12);
        check.state(x, 11, 1);
        check.count(x, 12, 0);
        // It does not come again in its cycle.
        check.pass(x, 2, 0);
        check.pass(x, 1, 1);
        check.store(x, 12, 11);
        // The first, one in the middle and the last of a full queue.
        for (int line : new int[] {1, 3, 4, 101, 104}) {
            PrefetchRules y = new PrefetchRules(0, 4, 32, 64);
            y.access(0, 0);
            y.access(0, 100);
            check.access(y, 0, line, 2);
            check.state(y, line, 1);
            check.count(y, 11, 8);
            check.count(y, 8, 9);
        }
    }

    private static void miss() {
        PrefetchRules x = new PrefetchRules(0, 1, 32, 2);
        check.access(x, 0, 10, 0);
        check.state(x, 10, 1);
        check.access(x, 0, 30, 0);
        check.access(x, 0, 50, 0);
        // It went out of the store: it is missed again.
        check.access(x, 0, 10, 0);
        check.store(x, 10, 50);
        check.count(x, 12, 0);
        check.counts(x, 4, 0, 0, 4, 0, 0);
    }

    private static void answers() {
        PrefetchRules x = new PrefetchRules(0, 1, 2, 8);
        check.access(x, 0, 10, 0);
        check.access(x, 0, 11, 2);
        check.access(x, 0, 50, 0);
        check.access(x, 0, 12, 1);
        check.access(x, 0, 12, 1);
        check.counts(x, 5, 2, 1, 2, 1, 0, 1, 0, 4, 5);
    }
}
