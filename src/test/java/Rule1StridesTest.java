/** Rule 1, STRIDES: the table of rows by place. */
public final class Rule1StridesTest {
    private static final Check check = new Check();

    public static void main(String[] args) {
        saysWithTrust();
        keepsStrideWhileTrusted();
        strideNought();
        rowsByPlace();
        wraps();
        check.end();
    }

    private static void step(PrefetchRules x, int place, int line, int stride, int trust) {
        x.access(place, line);
        check.known(x, place, stride);
        check.trust(x, place, trust);
    }

    private static void saysWithTrust() {
        PrefetchRules x = new PrefetchRules(1, 3, 32, 16);
        step(x, 7, 100, 0, 0);
        step(x, 7, 90, -10, 0);
        step(x, 7, 80, -10, 1);
        check.queue(x);
        step(x, 7, 70, -10, 2);
        check.queue(x, 60, 50, 40);
        step(x, 7, 60, -10, 3);
        check.queue(x, 50, 40, 30);
        step(x, 7, 50, -10, 3);
        check.queue(x, 40, 30, 20);
        check.counts(x, 6, 0, 2, 4, 0, 0, 4, 0, 5);
    }

    private static void keepsStrideWhileTrusted() {
        PrefetchRules x = new PrefetchRules(1, 1, 32, 64);
        step(x, 0, 0, 0, 0);
        step(x, 0, 4, 4, 0);
        step(x, 0, 8, 4, 1);
        step(x, 0, 12, 4, 2);
        step(x, 0, 16, 4, 3);
        check.queue(x, 20);
        step(x, 0, 500, 4, 2);
        check.queue(x, 20, 504);
        step(x, 0, 600, 4, 1);
        check.queue(x, 20, 504);
        step(x, 0, 604, 4, 2);
        check.queue(x, 20, 504, 608);
        step(x, 0, 700, 4, 1);
        step(x, 0, 800, 4, 0);
        step(x, 0, 801, 1, 0);
        step(x, 0, 900, 99, 0);
        step(x, 0, 999, 99, 1);
        step(x, 0, 1000, 99, 0);
        check.queue(x, 20, 504, 608);
    }

    private static void strideNought() {
        PrefetchRules x = new PrefetchRules(1, 4, 32, 8);
        step(x, 3, 5, 0, 0);
        step(x, 3, 5, 0, 1);
        step(x, 3, 5, 0, 2);
        step(x, 3, 5, 0, 3);
        step(x, 3, 5, 0, 3);
        check.queue(x);
        check.count(x, 6, 0);
        step(x, 3, 6, 0, 2);
        check.queue(x);
    }

    private static void rowsByPlace() {
        PrefetchRules x = new PrefetchRules(1, 1, 32, 64);
        for (int turn = 0; turn < 4; turn++) {
            for (int place = 0; place < 16; place++) {
                x.access(place, 1000 * place + turn * (place + 1));
            }
        }
        for (int place = 0; place < 16; place++) {
            check.known(x, place, place + 1);
            check.trust(x, place, 2);
            check.known(x, place - 16, 0);
            check.known(x, place + 16, 0);
        }
        // Place 16 + 5 takes the row of 5, and 5 begins anew after it.
        step(x, 21, 77777, 0, 0);
        check.known(x, 5, 0);
        check.trust(x, 5, 0);
        step(x, 5, 5024, 0, 0);
        step(x, 5, 5030, 6, 0);
        check.known(x, 4, 5);
        check.known(x, 6, 7);
    }

    private static void wraps() {
        PrefetchRules x = new PrefetchRules(1, 4, 32, 64);
        step(x, 0, 0, 0, 0);
        step(x, 0, 0x40000000, 0x40000000, 0);
        step(x, 0, 0x80000000, 0x40000000, 1);
        step(x, 0, 0xC0000000, 0x40000000, 2);
        // Four such strides go once round: all the lines are stored already.
        check.queue(x);
        check.count(x, 6, 4);

        PrefetchRules y = new PrefetchRules(1, 2, 32, 64);
        step(y, 0, Integer.MAX_VALUE - 20, 0, 0);
        step(y, 0, Integer.MAX_VALUE - 10, 10, 0);
        step(y, 0, Integer.MAX_VALUE, 10, 1);
        step(y, 0, Integer.MIN_VALUE + 9, 10, 2);
        check.queue(y, Integer.MIN_VALUE + 19, Integer.MIN_VALUE + 29);
    }
}
