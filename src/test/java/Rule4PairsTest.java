/** Rule 4, PAIRS: which lines came behind a line. */
public final class Rule4PairsTest {
    private static final int NONE = PrefetchRules.NONE;
    private static final int MIN = Integer.MIN_VALUE;
    private static final int MAX = Integer.MAX_VALUE;

    private static final Check check = new Check();

    public static void main(String[] args) {
        check.sentence("a table of 64 rows by line (its lowest 6 bits)", Rule4PairsTest::rowsByLine);
        check.sentence("the two lines that came behind it last (the newer one first;", Rule4PairsTest::newerAndOlder);
        check.sentence("none at first", Rule4PairsTest::noneAtFirst);
        check.sentence("The line before this access (if there was one)", Rule4PairsTest::lineBefore);
        check.sentence("its row becomes its own (nothing behind it), when it is another's or none",
                Rule4PairsTest::otherOwner);
        check.sentence("when this line is not the newer one", Rule4PairsTest::sameOneAgain);
        check.sentence("that becomes the older one, this one the newer", Rule4PairsTest::becomesOlder);
        check.sentence("Then of this line's row, when it is its own", Rule4PairsTest::saysOfItsOwn);
        check.sentence("the newer one, and the older one", Rule4PairsTest::newerFirst);
        check.sentence("when d is above 1", Rule4PairsTest::degrees);
        check.sentence("as far as there are", Rule4PairsTest::asFarAsThereAre);
        check.sentence("LINES are ints.", Rule4PairsTest::lineMinusOne);
        check.end();
    }

    private static void row(PrefetchRules x, int line, int newer, int older) {
        check.known(x, line, newer);
        check.trust(x, line, older);
    }

    /** With one line in the store nearly everything that is said is fetched. */
    private static PrefetchRules begun(int degree, int... lines) {
        PrefetchRules x = new PrefetchRules(4, degree, 32, 1);
        for (int line : lines) {
            x.access(0, line);
        }
        return x;
    }

    private static void rowsByLine() {
        PrefetchRules x = begun(2);
        for (int i = 0; i < 65; i++) {
            x.access(0, 1000 + i);
        }
        for (int i = 0; i < 64; i++) {
            row(x, 1000 + i, 1001 + i, NONE);
        }
        // The 65th takes the row of the first.
        x.access(0, 7);
        row(x, 1064, 7, NONE);
        row(x, 1000, NONE, NONE);
        row(x, 1001, 1002, NONE);
        // Each of these has the lowest 6 bits of the line behind it, and takes its row alone.
        int[][] same = {{64, 0}, {MIN, 0}, {-64, 0}, {127, 63}, {-1, 63}, {MAX, 63}, {-63, 1}, {96, 32}};
        for (int[] lines : same) {
            PrefetchRules y = begun(2);
            for (int i = 0; i <= 63; i++) {
                y.access(0, i);
                y.access(0, 500);
            }
            y.access(0, lines[0]);
            y.access(0, 77);
            for (int i = 0; i <= 63; i++) {
                int due = i == lines[0] ? 77 : i == lines[1] ? NONE : i == (500 & 63) ? NONE : 500;
                check.known(y, i, due);
            }
        }
    }

    private static void newerAndOlder() {
        PrefetchRules x = begun(2, 1, 2);
        row(x, 1, 2, NONE);
        row(x, 2, NONE, NONE);
        check.queue(x);
        x.access(0, 1);
        check.queue(x, 2);
        x.access(0, 3);
        row(x, 1, 3, 2);
        row(x, 2, 1, NONE);
        x.access(0, 1);
        check.queue(x, 2, 3);
        check.count(x, 6, 1);
        x.access(0, 2);
        row(x, 1, 2, 3);
        check.queue(x, 3, 1);
        x.access(0, 1);
        x.access(0, 2);
        row(x, 1, 2, 3);
        x.access(0, 1);
        x.access(0, 4);
        row(x, 1, 4, 2);
    }

    private static void noneAtFirst() {
        PrefetchRules x = begun(2);
        for (int line : new int[] {0, 1, 63, 64, -1, MIN, MAX}) {
            row(x, line, NONE, NONE);
        }
        // Nothing stands for the line 0.
        PrefetchRules y = begun(2, 5, 0);
        row(y, 5, 0, NONE);
        y.access(0, 5);
        check.queue(y, 0);
        row(begun(2, 5, 0, 5, 9), 5, 9, 0);
    }

    private static void lineBefore() {
        // The first access has none before it.
        PrefetchRules x = begun(2, 9);
        for (int line : new int[] {0, -1, 9, 63, 64}) {
            row(x, line, NONE, NONE);
        }
        x.access(0, 0);
        row(x, 9, 0, NONE);
        row(x, 0, NONE, NONE);
        // A line may come behind itself.
        PrefetchRules y = begun(2, 5, 5);
        row(y, 5, 5, NONE);
        check.queue(y);
        check.count(y, 6, 1);
        y.access(0, 6);
        row(y, 5, 6, 5);
        // It is the line before whatever was answered: a miss, a hit, a late one.
        PrefetchRules z = new PrefetchRules(4, 2, 32, 8);
        z.access(0, 1);
        z.access(0, 2);
        check.access(z, 0, 1, 1);
        z.access(0, 3);
        row(z, 1, 3, 2);
        PrefetchRules late = begun(1, 1, 2, 1);
        check.access(late, 0, 2, 2);
        late.access(0, 8);
        row(late, 2, 8, 1);
    }

    private static void otherOwner() {
        PrefetchRules x = begun(2, 1, 2, 1, 3);
        row(x, 1, 3, 2);
        // 65 alone does not take the row of 1: only what comes behind it does.
        x.access(0, 65);
        row(x, 1, 3, 2);
        row(x, 65, NONE, NONE);
        x.access(0, 7);
        row(x, 65, 7, NONE);
        row(x, 1, NONE, NONE);
        x.access(0, 1);
        row(x, 65, 7, NONE);
        x.access(0, 8);
        row(x, 1, 8, NONE);
        row(x, 65, NONE, NONE);
        row(x, -63, NONE, NONE);
        row(x, 64, NONE, NONE);
        // What was the other's newer one is not this one's: 7 comes behind 65 as the first.
        PrefetchRules y = begun(2, 1, 7, 65, 7);
        row(y, 65, 7, NONE);
        // 1 and 65 in turn have the same row; it is never long the own one of either.
        PrefetchRules z = begun(2, 1, 65, 1, 65, 1);
        row(z, 65, 1, NONE);
        row(z, 1, NONE, NONE);
        check.queue(z);
    }

    private static void sameOneAgain() {
        PrefetchRules x = begun(2, 1, 2, 1, 2, 1, 2);
        row(x, 1, 2, NONE);
        row(x, 2, 1, NONE);
        row(begun(2, 1, 2, 1, 3, 1, 3, 1, 3), 1, 3, 2);
        row(begun(2, 5, 5, 5, 5), 5, 5, NONE);
    }

    private static void becomesOlder() {
        row(begun(2, 1, 2, 1, 3), 1, 3, 2);
        // The older one of before goes; back again, the two change places.
        row(begun(2, 1, 2, 1, 3, 1, 4), 1, 4, 3);
        row(begun(2, 1, 2, 1, 3, 1, 2), 1, 2, 3);
    }

    private static void saysOfItsOwn() {
        // The row of 1 has 2 behind it, and is not 65's.
        check.queue(begun(2, 1, 2, 65));
        check.queue(begun(2, 1, 2, 1), 2);
        // What comes behind a line is learnt before the line's own row is said.
        PrefetchRules x = begun(2, 5, 6, 5, 5);
        row(x, 5, 5, 6);
        check.count(x, 6, 2);
        check.queue(x, 6);
    }

    private static void newerFirst() {
        check.queue(begun(3, 1, 2, 1, 3, 1), 2, 3);
        check.queue(begun(4, 1, 3, 1, 2, 9, 1), 3, 2);
        PrefetchRules x = begun(2, 1, 2, 9, 1, 3, 9);
        x.finish();
        x.access(0, 1);
        check.queue(x, 3, 2);
    }

    private static void degrees() {
        for (int degree = 1; degree <= 4; degree++) {
            PrefetchRules x = begun(degree, 1, 2, 9, 1, 3, 9);
            x.finish();
            x.access(0, 1);
            if (degree == 1) {
                check.queue(x, 3);
            } else {
                check.queue(x, 3, 2);
            }
        }
    }

    private static void asFarAsThereAre() {
        for (int degree = 1; degree <= 4; degree++) {
            check.count(begun(degree, 1), 8, 0);
            check.count(begun(degree, 1, 2), 8, 0);
            PrefetchRules x = begun(degree, 1, 2, 1);
            check.queue(x, 2);
            check.count(x, 6, 0);
        }
    }

    private static void lineMinusOne() {
        // -1 is a line behind a line as any other, though NONE is written alike.
        PrefetchRules x = begun(2, 3, -1);
        x.access(0, 3);
        check.queue(x, -1);
        x.access(0, 4);
        row(x, 3, 4, -1);
        x.access(0, 3);
        check.queue(x, -1, 4);
        row(x, -1, 3, NONE);
        PrefetchRules y = begun(2, -1, 0, -1);
        check.queue(y, 0);
        row(y, -1, 0, NONE);
        row(y, 0, -1, NONE);
        PrefetchRules ends = begun(2, MIN, MAX, MIN, -1, MIN);
        row(ends, MIN, -1, MAX);
        check.queue(ends, MAX, -1);
    }
}
