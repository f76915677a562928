/** Promise 8: what each rule knows. */
public final class Promise08KnownTest {
    private static final int NONE = PrefetchRules.NONE;
    private static final int MIN = Integer.MIN_VALUE;
    private static final int MAX = Integer.MAX_VALUE;

    private static final Check check = new Check();

    public static void main(String[] args) {
        check.sentence("1 the stride of a place's row, when it is its own, else 0", Promise08KnownTest::strides);
        check.sentence("2 how many streams", Promise08KnownTest::streams);
        check.sentence("3 the offset", Promise08KnownTest::offsets);
        check.sentence("4 the newer line behind a line, when its row is its own and there is one, else NONE",
                Promise08KnownTest::pairs);
        check.sentence("0 nothing: 0", Promise08KnownTest::next);
        check.end();
    }

    private static void strides() {
        PrefetchRules x = new PrefetchRules(1, 1, 1, 4);
        // A row that is nobody's is not the row of place 0.
        for (int place : new int[] {0, 1, 15, -1, MIN, MAX}) {
            check.known(x, place, 0);
        }
        x.access(-1, 5);
        check.known(x, -1, 0);
        x.access(-1, 8);
        check.known(x, -1, 3);
        check.known(x, 15, 0);
        check.known(x, 14, 0);
        check.known(x, MAX, 0);
        x.access(15, 8);
        check.known(x, -1, 0);
        x.access(15, 2);
        check.known(x, 15, -6);
        check.known(x, -1, 0);
        check.known(x, 31, 0);
        x.access(MIN, 0);
        x.access(MIN, MIN);
        check.known(x, MIN, MIN);
        check.known(x, 0, 0);
        check.known(x, 15, -6);
    }

    private static void streams() {
        PrefetchRules x = new PrefetchRules(2, 1, 1, 4);
        check.known(x, 0, 0);
        for (int i = 1; i <= 10; i++) {
            x.access(0, 100 * i);
            check.known(x, 7 - i, Math.min(i, 8));
        }
        // A stream that goes on is no new one.
        x.access(0, 1001);
        check.known(x, MIN, 8);
        check.known(x, MAX, 8);
        PrefetchRules y = new PrefetchRules(2, 1, 1, 4);
        y.access(0, 10);
        y.access(0, 11);
        check.known(y, 0, 1);
    }

    private static void offsets() {
        PrefetchRules x = new PrefetchRules(3, 1, 1, 4);
        check.known(x, 0, 1);
        for (int i = 0; i < 240; i++) {
            check.known(x, i - 100, 1);
            x.access(0, 1000 * i);
        }
        for (int of : new int[] {0, -1, 1, 12, MIN, MAX}) {
            check.known(x, of, 0);
        }
    }

    private static void pairs() {
        PrefetchRules x = new PrefetchRules(4, 1, 1, 4);
        for (int line : new int[] {0, 63, -1, MIN, MAX}) {
            check.known(x, line, NONE);
        }
        x.access(0, 0);
        check.known(x, 0, NONE);
        x.access(0, 9);
        check.known(x, 0, 9);
        check.known(x, 64, NONE);
        check.known(x, MIN, NONE);
        check.known(x, 9, NONE);
        x.access(0, -1);
        check.known(x, 9, -1);
        x.access(0, 63);
        check.known(x, -1, 63);
        check.known(x, 63, NONE);
        x.access(0, 7);
        check.known(x, 63, 7);
        check.known(x, -1, NONE);
        check.known(x, MAX, NONE);
        // The degree limits what is said, not what is known.
        x.access(0, 63);
        x.access(0, 8);
        check.known(x, 63, 8);
        check.trust(x, 63, 7);
    }

    private static void next() {
        PrefetchRules x = new PrefetchRules(0, 1, 1, 4);
        x.access(1, 5);
        x.access(1, 8);
        for (int of : new int[] {0, 1, 5, 8, -1, MIN, MAX}) {
            check.known(x, of, 0);
        }
    }
}
