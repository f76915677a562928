/** Promise 4: the end makes useless what is on its way and what is marked. */
public final class Promise04FinishTest {
    private static final Check check = new Check();

    public static void main(String[] args) {
        queueAndMarks();
        nothingToEnd();
        goingOn();
        check.end();
    }

    private static void queueAndMarks() {
        PrefetchRules x = new PrefetchRules(0, 3, 2, 8);
        x.access(0, 10);
        x.pass(1);
        x.access(0, 11);
        x.access(0, 30);
        check.state(x, 12, 2);
        check.state(x, 13, 2);
        check.queue(x, 14, 31, 32, 33);
        check.due("finish()", x.finish(), 6);
        check.counts(x, 3, 1, 0, 2, 1, 6, 2, 0, 7, 4, 5, 0, 0);
        check.store(x, 30, 11, 13, 12, 10);
        check.queue(x);
        check.state(x, 12, 1);
        check.state(x, 31, 0);
        check.due("finish()", x.finish(), 0);
        check.count(x, 5, 6);
    }

    private static void nothingToEnd() {
        PrefetchRules x = new PrefetchRules(1, 1, 1, 2);
        check.due("finish()", x.finish(), 0);
        x.access(0, 1);
        check.due("finish()", x.finish(), 0);
        check.store(x, 1);
        check.count(x, 9, 1);
    }

    private static void goingOn() {
        PrefetchRules x = new PrefetchRules(0, 1, 1, 2);
        x.access(0, 10);
        x.pass(1);
        check.due("finish()", x.finish(), 1);
        // Its mark has gone: neither useful when it is asked for nor useless when it goes.
        check.access(x, 0, 11, 1);
        check.count(x, 4, 0);
        check.due("pass(1)", x.pass(1), 1);
        check.due("finish()", x.finish(), 1);
        check.access(x, 0, 50, 0);
        check.access(x, 0, 60, 0);
        check.count(x, 5, 2);
        check.due("finish()", x.finish(), 2);
        check.count(x, 5, 4);

        PrefetchRules y = new PrefetchRules(4, 1, 1, 2);
        y.access(0, 1);
        y.finish();
        y.access(0, 2);
        check.known(y, 1, 2);
    }
}
