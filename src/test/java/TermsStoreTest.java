/** The terms: lines, the store, and what happens when it is full. */
public final class TermsStoreTest {
    private static final int MIN = Integer.MIN_VALUE;
    private static final int MAX = Integer.MAX_VALUE;

    private static final Check check = new Check();

    public static void main(String[] args) {
        check.sentence("LINES are ints.", TermsStoreTest::anyInt);
        check.sentence("THE STORE has N lines at most", TermsStoreTest::atMostN);
        check.sentence("in the order of their last use", TermsStoreTest::orderOfLastUse);
        check.sentence("a line may have a MARK (fetched by a rule, not asked for yet)", TermsStoreTest::marks);
        check.sentence("A line COMES into the store as the one used last", TermsStoreTest::comesAsLast);
        check.sentence("when there are N already, the one whose last use is longest ago goes out first",
                TermsStoreTest::goesWhenFull);
        check.sentence("(USELESS, when it has its mark)", TermsStoreTest::uselessWithMark);
        check.end();
    }

    /** Rule 1 with a new place at each access says nothing, so only what is asked for is stored. */
    private static PrefetchRules silent(int lines) {
        return new PrefetchRules(1, 4, 1, lines);
    }

    private static void anyInt() {
        PrefetchRules x = silent(5);
        check.access(x, 1, MIN, 0);
        check.access(x, 2, -1, 0);
        check.access(x, 3, 0, 0);
        check.access(x, 4, MAX, 0);
        check.store(x, MAX, 0, -1, MIN);
        check.access(x, 5, MIN, 1);
        check.access(x, 6, -1, 1);
        check.access(x, 7, 0, 1);
        check.access(x, 8, MAX, 1);
        for (int line : new int[] {MIN + 1, -2, 1, MAX - 1}) {
            check.state(x, line, 0);
        }
        PrefetchRules y = new PrefetchRules(0, 2, 1, 4);
        y.access(0, -2);
        y.pass(1);
        check.state(y, -1, 2);
        check.state(y, 0, 2);
        check.access(y, 0, -1, 1);
        check.store(y, -1, 0, -2);
    }

    private static void atMostN() {
        for (int n : new int[] {1, 2, 3, 63, 64}) {
            PrefetchRules x = silent(n);
            for (int i = 1; i <= n; i++) {
                check.access(x, i, 10 * i, 0);
                check.count(x, 10, i);
            }
            check.state(x, 10, 1);
            check.access(x, n + 1, 10 * n + 10, 0);
            check.count(x, 10, n);
            check.state(x, 10, 0);
            check.access(x, n + 2, 10 * n + 20, 0);
            check.count(x, 10, n);
            check.state(x, 20, 0);
            check.noneStored(x, n);
        }
    }

    private static void orderOfLastUse() {
        PrefetchRules x = silent(4);
        x.access(1, 10);
        x.access(2, 20);
        x.access(3, 30);
        x.access(4, 40);
        check.store(x, 40, 30, 20, 10);
        check.access(x, 5, 40, 1);
        check.store(x, 40, 30, 20, 10);
        check.access(x, 6, 20, 1);
        check.store(x, 20, 40, 30, 10);
        check.access(x, 7, 10, 1);
        check.store(x, 10, 20, 40, 30);
    }

    private static void marks() {
        PrefetchRules x = new PrefetchRules(0, 1, 1, 8);
        x.access(0, 10);
        check.state(x, 10, 1);
        check.count(x, 12, 0);
        x.pass(1);
        check.state(x, 11, 2);
        check.count(x, 12, 1);
        // A use moves only the mark of the line that is asked for.
        x.access(0, 50);
        check.access(x, 0, 10, 1);
        check.state(x, 11, 2);
        check.state(x, 51, 2);
        check.state(x, 10, 1);
        check.state(x, 50, 1);
        check.access(x, 0, 51, 1);
        check.state(x, 51, 1);
        check.state(x, 11, 2);
        check.count(x, 12, 1);
    }

    private static void comesAsLast() {
        PrefetchRules x = new PrefetchRules(0, 2, 3, 8);
        x.access(0, 10);
        check.store(x, 10);
        x.access(0, 20);
        check.store(x, 20, 10);
        check.access(x, 0, 12, 2);
        check.store(x, 12, 20, 10);
        check.pass(x, 1, 1);
        check.store(x, 11, 12, 20, 10);
        check.pass(x, 1, 2);
        check.store(x, 22, 21, 11, 12, 20, 10);
    }

    private static void goesWhenFull() {
        PrefetchRules x = silent(3);
        x.access(1, 10);
        x.access(2, 20);
        x.access(3, 30);
        check.store(x, 30, 20, 10);
        // Asked for again, 10 is no longer the one used longest ago; nothing goes out for a hit.
        x.access(4, 10);
        check.store(x, 10, 30, 20);
        x.access(5, 40);
        check.store(x, 40, 10, 30);
        x.access(6, 20);
        check.store(x, 20, 40, 10);

        PrefetchRules one = new PrefetchRules(0, 4, 1, 1);
        one.access(0, 10);
        check.pass(one, 1, 4);
        check.store(one, 14);
        check.access(one, 0, 14, 1);
        check.store(one, 14);
    }

    private static void uselessWithMark() {
        // A line that is missed drives the mark out.
        PrefetchRules miss = markedAlone();
        check.access(miss, 0, 90, 0);
        check.store(miss, 90);
        check.count(miss, 5, 1);
        // A line that is late does.
        PrefetchRules late = markedAlone();
        check.access(late, 0, 21, 2);
        check.store(late, 21);
        check.count(late, 5, 1);
        // A fetch that comes does.
        PrefetchRules fetched = markedAlone();
        check.pass(fetched, 2, 1);
        check.store(fetched, 21);
        check.count(fetched, 5, 1);
        check.count(fetched, 12, 1);
        // Asked for before, it goes without having been useless.
        PrefetchRules asked = markedAlone();
        check.access(asked, 0, 11, 1);
        check.access(asked, 0, 90, 0);
        check.count(asked, 4, 1);
        check.count(asked, 5, 1);
        check.state(asked, 21, 0);
    }

    /** A store of one line, 11 with its mark, and 21 in the queue, to come in two cycles. */
    private static PrefetchRules markedAlone() {
        PrefetchRules x = new PrefetchRules(0, 1, 4, 1);
        x.access(0, 10);
        x.pass(1);
        x.access(0, 20);
        x.pass(2);
        check.state(x, 11, 2);
        check.queued(x, 0, 21, 2);
        check.count(x, 5, 0);
        return x;
    }
}
