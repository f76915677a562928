import java.util.Arrays;

/** Rule 1, STRIDES: the table of rows by place. */
public final class Rule1StridesTest {
    private static final int MIN = Integer.MIN_VALUE;
    private static final int MAX = Integer.MAX_VALUE;

    private static final Check check = new Check();

    public static void main(String[] args) {
        check.sentence("a table of 16 rows by place (its lowest 4 bits)", Rule1StridesTest::rowsByPlace);
        check.sentence("(none at first)", Rule1StridesTest::noneAtFirst);
        check.sentence("With another place or none: it becomes this place, this line, stride 0, trust 0; "
                + "nothing is said.", Rule1StridesTest::anotherPlace);
        check.sentence("s is its stride: trust goes up by 1 (to 3)", Rule1StridesTest::trustGoesUp);
        check.sentence("else trust goes down by 1 when it is above 0", Rule1StridesTest::trustGoesDown);
        check.sentence("and when it was 0 the stride is s", Rule1StridesTest::newStride);
        check.sentence("Its line is this one.", Rule1StridesTest::lineIsThisOne);
        check.sentence("when trust is 2 or more", Rule1StridesTest::saysWithTrust);
        check.sentence("and the stride is not 0", Rule1StridesTest::strideNought);
        check.sentence("line + stride to line + d * stride, each a stride further", Rule1StridesTest::strideFurther);
        check.sentence("Sums of lines are of 32 bits.", Rule1StridesTest::wraps);
        check.end();
    }

    private static void step(PrefetchRules x, int place, int line, int stride, int trust) {
        x.access(place, line);
        check.known(x, place, stride);
        check.trust(x, place, trust);
    }

    private static void rowsByPlace() {
        PrefetchRules x = new PrefetchRules(1, 1, 32, 64);
        for (int turn = 0; turn < 4; turn++) {
            for (int place = 0; place < 16; place++) {
                x.access(place, 1000 * place + turn * (place + 1));
            }
        }
        for (int place = 0; place < 16; place++) {
            check.known(x, place, place + 1);
            check.trust(x, place, 2);
        }
        // Each of these has the lowest 4 bits of the place behind it, and takes its row alone.
        int[][] same = {{16, 0}, {MIN, 0}, {-16, 0}, {31, 15}, {-1, 15}, {MAX, 15}, {21, 5}, {-10, 6}, {1 << 4 | 9, 9}};
        for (int[] places : same) {
            PrefetchRules y = new PrefetchRules(1, 1, 32, 64);
            for (int place = 0; place < 16; place++) {
                y.access(place, 0);
                y.access(place, 7);
            }
            y.access(places[0], 50);
            for (int place = 0; place < 16; place++) {
                check.known(y, place, place == places[1] ? 0 : 7);
            }
        }
    }

    private static void noneAtFirst() {
        // Were a row place 0, line 0 at first, the stride of 9 would be known at once.
        PrefetchRules x = new PrefetchRules(1, 1, 32, 8);
        step(x, 0, 9, 0, 0);
        PrefetchRules y = new PrefetchRules(1, 1, 32, 8);
        step(y, 0, 0, 0, 0);
        step(y, -1, 9, 0, 0);
    }

    private static void anotherPlace() {
        PrefetchRules x = new PrefetchRules(1, 1, 1, 64);
        for (int i = 0; i < 8; i++) {
            x.access(5, 4 * i);
        }
        check.trust(x, 5, 3);
        x.finish();
        // The step of 21 from the line of 5 is just the stride of 5, but it is not its own.
        step(x, 21, 32, 0, 0);
        check.queue(x);
        check.known(x, 5, 0);
        check.trust(x, 5, 0);
        step(x, 21, 36, 4, 0);
        // 5 has lost its row, and begins anew.
        step(x, 5, 40, 0, 0);
        check.queue(x);
        step(x, 5, 46, 6, 0);
    }

    private static void trustGoesUp() {
        PrefetchRules x = new PrefetchRules(1, 1, 32, 64);
        step(x, 7, 100, 0, 0);
        step(x, 7, 90, -10, 0);
        step(x, 7, 80, -10, 1);
        step(x, 7, 70, -10, 2);
        step(x, 7, 60, -10, 3);
        step(x, 7, 50, -10, 3);
        step(x, 7, 40, -10, 3);
        // From 3, and not from more, two misses leave 1.
        step(x, 7, 1000, -10, 2);
        step(x, 7, 2000, -10, 1);
    }

    private static PrefetchRules trusted() {
        PrefetchRules x = new PrefetchRules(1, 1, 32, 64);
        for (int line = 0; line <= 16; line += 4) {
            x.access(0, line);
        }
        check.known(x, 0, 4);
        check.trust(x, 0, 3);
        return x;
    }

    private static void trustGoesDown() {
        PrefetchRules x = trusted();
        step(x, 0, 500, 4, 2);
        step(x, 0, 600, 4, 1);
        step(x, 0, 604, 4, 2);
        step(x, 0, 700, 4, 1);
        // From 1 to 0 the stride stays; only the next other step changes it.
        step(x, 0, 800, 4, 0);
        step(x, 0, 804, 4, 1);
        step(x, 0, 805, 4, 0);
        step(x, 0, 806, 1, 0);
    }

    private static void newStride() {
        PrefetchRules x = new PrefetchRules(1, 1, 32, 64);
        step(x, 0, 0, 0, 0);
        step(x, 0, 5, 5, 0);
        step(x, 0, 8, 3, 0);
        step(x, 0, 8, 0, 0);
        step(x, 0, 7, -1, 0);
        step(x, 0, 6, -1, 1);
        // At trust 0 the old stride counts no more.
        step(x, 0, 100, -1, 0);
        step(x, 0, 200, 100, 0);
        step(x, 0, 199, -1, 0);
        check.queue(x);
    }

    private static void lineIsThisOne() {
        // Whether the step was the stride, another one, or one that became it: the next step is from here.
        PrefetchRules x = trusted();
        step(x, 0, 500, 4, 2);
        step(x, 0, 504, 4, 3);
        step(x, 0, 508, 4, 3);
        step(x, 0, 20, 4, 2);
        step(x, 0, 512, 4, 1);
        step(x, 0, 516, 4, 2);
    }

    private static void saysWithTrust() {
        PrefetchRules x = new PrefetchRules(1, 3, 32, 16);
        step(x, 7, 100, 0, 0);
        check.queue(x);
        step(x, 7, 90, -10, 0);
        check.queue(x);
        step(x, 7, 80, -10, 1);
        check.queue(x);
        step(x, 7, 70, -10, 2);
        check.queue(x, 60, 50, 40);
        step(x, 7, 60, -10, 3);
        check.queue(x, 50, 40, 30);
        step(x, 7, 50, -10, 3);
        check.queue(x, 40, 30, 20);
        check.counts(x, 6, 0, 2, 4, 0, 0, 4, 0, 5);
        // Another step leaves 2: still enough, with the stride as it was. One more leaves 1.
        PrefetchRules y = trusted();
        y.finish();
        step(y, 0, 500, 4, 2);
        check.queue(y, 504);
        step(y, 0, 600, 4, 1);
        check.queue(y, 504);
        check.count(y, 6, 0);
    }

    private static void strideNought() {
        PrefetchRules x = new PrefetchRules(1, 4, 32, 8);
        step(x, 3, 5, 0, 0);
        step(x, 3, 5, 0, 1);
        step(x, 3, 5, 0, 2);
        step(x, 3, 5, 0, 3);
        step(x, 3, 5, 0, 3);
        step(x, 3, 6, 0, 2);
        check.queue(x);
        // Nothing is said, so nothing is filtered, either.
        check.count(x, 6, 0);
    }

    private static void strideFurther() {
        for (int degree = 1; degree <= 4; degree++) {
            PrefetchRules x = new PrefetchRules(1, degree, 32, 64);
            for (int line = 0; line <= 9; line += 3) {
                x.access(8, line);
            }
            int[] due = {12, 15, 18, 21};
            check.queue(x, Arrays.copyOf(due, degree));
        }
    }

    private static void wraps() {
        PrefetchRules x = new PrefetchRules(1, 4, 32, 64);
        step(x, 0, 0, 0, 0);
        step(x, 0, 0x40000000, 0x40000000, 0);
        step(x, 0, 0x80000000, 0x40000000, 1);
        step(x, 0, 0xC0000000, 0x40000000, 2);
        // Four such strides go once round: all the lines are stored already.
        check.queue(x);
        check.count(x, 6, 4);
        // The step from the greatest line to the least is 1, and back it is -1.
        PrefetchRules up = new PrefetchRules(1, 2, 32, 64);
        step(up, 0, MAX - 2, 0, 0);
        step(up, 0, MAX - 1, 1, 0);
        step(up, 0, MAX, 1, 1);
        step(up, 0, MIN, 1, 2);
        check.queue(up, MIN + 1, MIN + 2);
        PrefetchRules down = new PrefetchRules(1, 2, 32, 64);
        step(down, 0, MIN + 2, 0, 0);
        step(down, 0, MIN, -2, 0);
        step(down, 0, MAX - 1, -2, 1);
        step(down, 0, MAX - 3, -2, 2);
        check.queue(down, MAX - 5, MAX - 7);
        // What is said goes over the end, too.
        PrefetchRules over = new PrefetchRules(1, 2, 32, 64);
        step(over, 0, MAX - 35, 0, 0);
        step(over, 0, MAX - 25, 10, 0);
        step(over, 0, MAX - 15, 10, 1);
        step(over, 0, MAX - 5, 10, 2);
        check.queue(over, MIN + 4, MIN + 14);
        // Half the ints are as far up as down.
        PrefetchRules half = new PrefetchRules(1, 1, 32, 64);
        step(half, 0, 5, 0, 0);
        step(half, 0, MIN + 5, MIN, 0);
        step(half, 0, 5, MIN, 1);
        step(half, 0, MIN + 5, MIN, 2);
    }
}
