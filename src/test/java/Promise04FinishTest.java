/** Promise 4: the end makes useless what is on its way and what is marked. */
public final class Promise04FinishTest {
    private static final Check check = new Check();

    public static void main(String[] args) {
        check.sentence("all fetches of the queue are useless", Promise04FinishTest::fetches);
        check.sentence("and all marks of the store (they go)", Promise04FinishTest::marks);
        check.sentence("how many that were", Promise04FinishTest::howMany);
        check.sentence("how many that were", Promise04FinishTest::nothingToEnd);
        check.sentence("The end", Promise04FinishTest::goingOn);
        check.sentence("The end", Promise04FinishTest::keepsWhatIsKnown);
        check.end();
    }

    private static void fetches() {
        for (int degree = 1; degree <= 4; degree++) {
            PrefetchRules x = new PrefetchRules(0, degree, 9, 8);
            x.access(0, 10);
            check.finish(x, degree);
            check.count(x, 5, degree);
            check.queue(x);
            check.state(x, 11, 0);
            check.finish(x, 0);
            check.pass(x, 100, 0);
            check.store(x, 10);
        }
        PrefetchRules full = new PrefetchRules(0, 4, 32, 8);
        full.access(0, 10);
        full.access(0, 20);
        full.access(0, 30);
        check.finish(full, 8);
        check.count(full, 5, 8);
        check.count(full, 7, 4);
        check.count(full, 8, 8);
        check.queue(full);
    }

    private static void marks() {
        PrefetchRules x = new PrefetchRules(0, 2, 1, 4);
        x.access(0, 10);
        x.pass(1);
        check.count(x, 12, 2);
        check.finish(x, 2);
        check.count(x, 12, 0);
        check.count(x, 5, 2);
        // The lines stay, and they stay where they are.
        check.store(x, 12, 11, 10);
        check.state(x, 11, 1);
        check.state(x, 12, 1);
        // Without the mark a line is neither useful when it is asked for nor useless when it goes.
        check.access(x, 0, 11, 1);
        check.count(x, 4, 0);
        PrefetchRules y = new PrefetchRules(0, 1, 1, 1);
        y.access(0, 10);
        y.pass(1);
        check.finish(y, 1);
        y.access(0, 50);
        check.count(y, 5, 1);
        // All lines of a full store have their marks.
        PrefetchRules full = new PrefetchRules(0, 4, 1, 4);
        full.access(0, 10);
        full.pass(1);
        check.finish(full, 4);
        check.count(full, 12, 0);
        check.store(full, 14, 13, 12, 11);
    }

    private static void howMany() {
        PrefetchRules x = new PrefetchRules(0, 3, 2, 8);
        x.access(0, 10);
        x.pass(1);
        x.access(0, 11);
        x.access(0, 30);
        check.state(x, 12, 2);
        check.state(x, 13, 2);
        check.queue(x, 14, 31, 32, 33);
        check.finish(x, 6);
        check.counts(x, 3, 1, 0, 2, 1, 6, 2, 0, 7, 4, 5, 0, 0);
        check.store(x, 30, 11, 13, 12, 10);
        check.queue(x);
        check.state(x, 12, 1);
        check.state(x, 31, 0);
        check.finish(x, 0);
        check.count(x, 5, 6);
        // What was useless before is not told again.
        PrefetchRules y = new PrefetchRules(0, 1, 1, 1);
        y.access(0, 10);
        y.access(0, 20);
        check.count(y, 5, 1);
        check.finish(y, 1);
        check.count(y, 5, 2);
    }

    private static void nothingToEnd() {
        for (int rule = 0; rule < 5; rule++) {
            PrefetchRules x = new PrefetchRules(rule, 1, 1, 2);
            check.finish(x, 0);
            check.finish(x, 0);
            check.counts(x, new int[14]);
        }
        PrefetchRules x = new PrefetchRules(1, 1, 1, 2);
        x.access(0, 1);
        check.finish(x, 0);
        check.store(x, 1);
        check.counts(x, 1, 0, 0, 1, 0, 0, 0, 0, 0, 1, 1, 0, 0, 0);
    }

    private static void goingOn() {
        PrefetchRules x = new PrefetchRules(0, 1, 2, 2);
        x.access(0, 10);
        check.finish(x, 1);
        // What was on its way is fetched anew.
        check.access(x, 0, 10, 1);
        check.queued(x, 0, 11, 2);
        check.count(x, 6, 0);
        check.count(x, 8, 2);
        check.pass(x, 2, 1);
        check.state(x, 11, 2);
        check.access(x, 0, 11, 1);
        check.count(x, 4, 1);
        check.finish(x, 1);
        check.count(x, 5, 2);
    }

    private static void keepsWhatIsKnown() {
        PrefetchRules pairs = new PrefetchRules(4, 1, 1, 2);
        pairs.access(0, 1);
        pairs.finish();
        pairs.access(0, 2);
        check.known(pairs, 1, 2);
        PrefetchRules strides = new PrefetchRules(1, 1, 1, 2);
        for (int i = 0; i < 4; i++) {
            strides.access(3, 7 * i);
        }
        strides.finish();
        check.known(strides, 3, 7);
        check.trust(strides, 3, 2);
        PrefetchRules streams = new PrefetchRules(2, 1, 1, 2);
        streams.access(0, 10);
        streams.access(0, 9);
        streams.finish();
        check.known(streams, 0, 1);
        check.trust(streams, 0, -1);
        PrefetchRules offsets = new PrefetchRules(3, 1, 1, 2);
        offsets.access(0, 10);
        offsets.finish();
        offsets.access(0, 12);
        offsets.finish();
        check.trust(offsets, 1, 1);
        check.known(offsets, 0, 1);
    }
}
