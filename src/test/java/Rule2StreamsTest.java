/** Rule 2, STREAMS: eight streams by their last use. */
public final class Rule2StreamsTest {
    private static final Check check = new Check();

    public static void main(String[] args) {
        steps();
        ways();
        sameLine();
        lastUsedFirst();
        ninth();
        wraps();
        check.end();
    }

    private static PrefetchRules begun(int degree, int... lines) {
        PrefetchRules x = new PrefetchRules(2, degree, 32, 64);
        for (int line : lines) {
            x.access(0, line);
        }
        return x;
    }

    private static void waysDue(PrefetchRules x, int... ways) {
        check.known(x, 0, ways.length);
        for (int k = 0; k < ways.length; k++) {
            check.trust(x, k, ways[k]);
        }
        check.trust(x, ways.length, 0);
    }

    private static void steps() {
        check.queue(begun(3, 100));
        check.queue(begun(3, 100, 101), 102, 103, 104);
        check.queue(begun(3, 100, 102), 103, 104, 105);
        check.queue(begun(3, 100, 103));
        check.queue(begun(3, 100, 99), 98, 97, 96);
        check.queue(begun(3, 100, 98), 97, 96, 95);
        check.queue(begun(3, 100, 97));
        waysDue(begun(1, 100, 103), 0, 0);
        waysDue(begun(1, 100, 97), 0, 0);
        waysDue(begun(1, 100, 102), 1);
        waysDue(begun(1, 100, 98), -1);
    }

    private static void ways() {
        // A stream with a way takes no line on its other side.
        waysDue(begun(1, 100, 101, 100), 0, 1);
        waysDue(begun(1, 100, 102, 100), 0, 1);
        waysDue(begun(1, 100, 99, 100), 0, -1);
        waysDue(begun(1, 100, 98, 100), 0, -1);
        waysDue(begun(1, 100, 101, 103, 104), 1);
        waysDue(begun(1, 100, 99, 97, 96), -1);
        check.queue(begun(1, 100, 101, 103, 104), 102, 105);
    }

    private static void sameLine() {
        // What was said for 101 is not said again for a line that begins a stream.
        check.count(begun(2, 100, 101, 101, 500), 6, 0);
        waysDue(begun(1, 100, 100), 0, 0);
        waysDue(begun(1, 100, 101, 101), 0, 1);
        check.queue(begun(1, 100, 100, 100));
    }

    private static void lastUsedFirst() {
        // 102 is within reach of 100 and of 103: the one used last takes it.
        PrefetchRules x = begun(1, 100, 103, 102);
        waysDue(x, -1, 0);
        check.queue(x, 101);
        PrefetchRules y = begun(1, 103, 100, 102);
        waysDue(y, 1, 0);
        check.queue(y);
        check.count(y, 6, 1);
        // The first one by last use does not take it, the second does.
        PrefetchRules z = begun(1, 10, 50, 51, 49, 12);
        waysDue(z, 1, 0, 1);
        z.access(0, 47);
        waysDue(z, -1, 1, 1);
    }

    private static void ninth() {
        PrefetchRules x = begun(1, 100, 200, 300, 400, 500, 600, 700, 800);
        waysDue(x, 0, 0, 0, 0, 0, 0, 0, 0);
        x.access(0, 101);
        waysDue(x, 1, 0, 0, 0, 0, 0, 0, 0);
        x.access(0, 900);
        waysDue(x, 0, 1, 0, 0, 0, 0, 0, 0);
        // 200 was the one used longest ago: 201 finds no stream, and drives 300 out.
        x.access(0, 201);
        waysDue(x, 0, 0, 1, 0, 0, 0, 0, 0);
        x.access(0, 401);
        waysDue(x, 1, 0, 0, 1, 0, 0, 0, 0);
        x.access(0, 301);
        waysDue(x, 0, 1, 0, 0, 1, 0, 0, 0);
        x.access(0, 103);
        waysDue(x, 1, 0, 1, 0, 0, 0, 0, 0);
        x.access(0, 798);
        waysDue(x, -1, 1, 0, 1, 0, 0, 0, 0);
        check.queue(x, 102, 402, 104, 797);
    }

    private static void wraps() {
        PrefetchRules up = begun(2, Integer.MAX_VALUE, Integer.MIN_VALUE);
        waysDue(up, 1);
        check.queue(up, Integer.MIN_VALUE + 1, Integer.MIN_VALUE + 2);
        PrefetchRules down = begun(2, Integer.MIN_VALUE + 1, Integer.MAX_VALUE);
        waysDue(down, -1);
        check.queue(down, Integer.MAX_VALUE - 1, Integer.MAX_VALUE - 2);
        waysDue(begun(1, 0, Integer.MIN_VALUE), 0, 0);
    }
}
