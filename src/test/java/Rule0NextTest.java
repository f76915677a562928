/** Rule 0, NEXT: the lines behind the one asked for. */
public final class Rule0NextTest {
    private static final Check check = new Check();

    public static void main(String[] args) {
        check.sentence("0 NEXT: line + 1 to line + d.", Rule0NextTest::degrees);
        check.sentence("Sums of lines are of 32 bits.", Rule0NextTest::wraps);
        check.end();
    }

    private static PrefetchRules asked(int degree, int line) {
        PrefetchRules x = new PrefetchRules(0, degree, 32, 8);
        x.access(-5, line);
        return x;
    }

    private static void degrees() {
        check.queue(asked(1, 70), 71);
        check.queue(asked(2, 70), 71, 72);
        check.queue(asked(3, -2), -1, 0, 1);
        check.queue(asked(4, -4), -3, -2, -1, 0);
        // It says them behind each answer: a hit, a late one, a miss.
        PrefetchRules x = asked(1, 70);
        check.access(x, 0, 71, 2);
        check.queue(x, 72);
        check.access(x, 0, 90, 0);
        check.queue(x, 72, 91);
        x.finish();
        check.access(x, 0, 90, 1);
        check.queue(x, 91);
    }

    private static void wraps() {
        int min = Integer.MIN_VALUE;
        int max = Integer.MAX_VALUE;
        check.queue(asked(4, max), min, min + 1, min + 2, min + 3);
        check.queue(asked(4, max - 2), max - 1, max, min, min + 1);
        check.queue(asked(4, min), min + 1, min + 2, min + 3, min + 4);
        PrefetchRules x = asked(1, max);
        check.access(x, 0, min, 2);
        x.pass(32);
        check.access(x, 0, min + 1, 1);
    }
}
