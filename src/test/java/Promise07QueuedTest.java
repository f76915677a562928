/** Promise 7: the fetches of the queue and when they come. */
public final class Promise07QueuedTest {
    private static final Check check = new Check();

    public static void main(String[] args) {
        PrefetchRules x = new PrefetchRules(0, 2, 5, 8);
        wrong(x, 0, 0);
        wrong(x, 0, 1);
        x.access(0, 10);
        right(x, 0, 11, 5);
        right(x, 1, 12, 5);
        x.pass(3);
        right(x, 0, 11, 2);
        x.access(0, 20);
        right(x, 0, 11, 1);
        right(x, 1, 12, 1);
        right(x, 2, 21, 5);
        right(x, 3, 22, 5);
        for (int k : new int[] {-1, 4, 7, 8, 9, Integer.MIN_VALUE, Integer.MAX_VALUE}) {
            wrong(x, k, 0);
            wrong(x, k, 1);
            wrong(x, k, 2);
        }
        for (int what : new int[] {-1, 2, 3, Integer.MIN_VALUE, Integer.MAX_VALUE}) {
            wrong(x, 0, what);
            wrong(x, 3, what);
        }
        // The one that was late goes; those behind it move up with their cycles.
        check.access(x, 0, 21, 2);
        right(x, 0, 22, 4);
        right(x, 1, 23, 5);
        wrong(x, 2, 0);
        x.finish();
        wrong(x, 0, 0);
        full();
        check.end();
    }

    private static void right(PrefetchRules x, int k, int line, int cycles) {
        check.due("queued(" + k + ", 0)", x.queued(k, 0), line);
        check.due("queued(" + k + ", 1)", x.queued(k, 1), cycles);
    }

    private static void wrong(PrefetchRules x, int k, int what) {
        check.dueThrow("queued(" + k + ", " + what + ")", IndexOutOfBoundsException.class, () -> x.queued(k, what));
    }

    private static void full() {
        PrefetchRules x = new PrefetchRules(0, 4, 32, 1);
        x.access(0, 0);
        x.access(0, 10);
        x.access(0, 20);
        right(x, 0, 1, 30);
        right(x, 7, 14, 31);
        wrong(x, 8, 0);
        x.pass(29);
        right(x, 0, 1, 1);
        x.pass(1);
        right(x, 0, 11, 1);
        right(x, 3, 14, 1);
        wrong(x, 4, 0);
    }
}
