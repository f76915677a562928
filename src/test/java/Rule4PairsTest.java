/** Rule 4, PAIRS: which lines came behind a line. */
public final class Rule4PairsTest {
    private static final int NONE = PrefetchRules.NONE;

    private static final Check check = new Check();

    public static void main(String[] args) {
        newerAndOlder();
        sameOneAgain();
        oneOnly();
        filteredLines();
        otherOwner();
        itself();
        lineMinusOne();
        check.end();
    }

    private static void row(PrefetchRules x, int line, int newer, int older) {
        check.known(x, line, newer);
        check.trust(x, line, older);
    }

    private static PrefetchRules begun(int degree, int... lines) {
        PrefetchRules x = new PrefetchRules(4, degree, 32, 1);
        for (int line : lines) {
            x.access(0, line);
        }
        return x;
    }

    private static void newerAndOlder() {
        // With one line in the store nearly everything that is said is fetched.
        PrefetchRules x = begun(2, 1, 2);
        row(x, 1, 2, NONE);
        row(x, 2, NONE, NONE);
        check.queue(x);
        x.access(0, 1);
        check.queue(x, 2);
        x.access(0, 3);
        row(x, 1, 3, 2);
        row(x, 2, 1, NONE);
        x.access(0, 1);
        check.queue(x, 2, 3);
        check.count(x, 6, 1);
        x.access(0, 2);
        row(x, 1, 2, 3);
        check.queue(x, 3, 1);
        x.access(0, 1);
        x.access(0, 2);
        row(x, 1, 2, 3);
        x.access(0, 1);
        x.access(0, 4);
        row(x, 1, 4, 2);
        check.queue(begun(3, 1, 2, 1, 3, 1), 2, 3);
        check.queue(begun(4, 1, 3, 1, 2, 9, 1), 3, 2);
    }

    private static void sameOneAgain() {
        PrefetchRules x = begun(2, 1, 2, 1, 2, 1, 2);
        row(x, 1, 2, NONE);
        row(x, 2, 1, NONE);
    }

    private static void oneOnly() {
        PrefetchRules x = begun(1, 1, 2, 9, 1, 3, 9);
        check.queue(x, 2, 1);
        x.finish();
        x.access(0, 1);
        check.queue(x, 3);
    }

    private static void filteredLines() {
        PrefetchRules x = new PrefetchRules(4, 2, 1, 8);
        x.access(0, 1);
        x.access(0, 2);
        x.access(0, 1);
        x.access(0, 3);
        x.access(0, 1);
        check.queue(x);
        check.count(x, 6, 3);
        check.count(x, 8, 0);
    }

    private static void otherOwner() {
        PrefetchRules x = begun(2, 1, 2, 1, 3);
        row(x, 1, 3, 2);
        // 65 alone does not take the row of 1: only what comes behind it does.
        x.access(0, 65);
        row(x, 1, 3, 2);
        row(x, 65, NONE, NONE);
        x.access(0, 7);
        row(x, 65, 7, NONE);
        row(x, 1, NONE, NONE);
        x.access(0, 1);
        row(x, 65, 7, NONE);
        x.access(0, 8);
        row(x, 1, 8, NONE);
        row(x, 65, NONE, NONE);
        row(x, -63, NONE, NONE);
        row(x, 64, NONE, NONE);
        for (int i = 0; i < 65; i++) {
            x.access(0, 1000 + i);
        }
        for (int i = 0; i < 64; i++) {
            row(x, 1000 + i, 1001 + i, NONE);
        }
    }

    private static void itself() {
        PrefetchRules x = begun(2, 5, 5);
        row(x, 5, 5, NONE);
        check.queue(x);
        check.count(x, 6, 1);
        x.access(0, 6);
        row(x, 5, 6, 5);
    }

    private static void lineMinusOne() {
        PrefetchRules x = begun(2, 3, -1);
        x.access(0, 3);
        check.queue(x, -1);
        x.access(0, 4);
        row(x, 3, 4, -1);
        x.access(0, 3);
        check.queue(x, -1, 4);
        row(x, -1, 3, NONE);
        PrefetchRules y = begun(2, -1, 0, -1);
        check.queue(y, 0);
        row(y, -1, 0, NONE);
        row(y, 0, -1, NONE);
        // The first access has no line before it: the row of 0 stays nobody's.
        row(begun(2, 9), 0, NONE, NONE);
    }
}
