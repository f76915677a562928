/** Rule 2, STREAMS: lines that follow one another, up or down. */
public final class Rule2StreamsTest {
    private static final int MIN = Integer.MIN_VALUE;
    private static final int MAX = Integer.MAX_VALUE;

    private static final Check check = new Check();

    public static void main(String[] args) {
        check.sentence("8 at most", Rule2StreamsTest::atMostEight);
        check.sentence("a way (1 or -1; 0: none yet)", Rule2StreamsTest::noWayYet);
        check.sentence("The first one by that order (the last used first)", Rule2StreamsTest::lastUsedFirst);
        check.sentence("for which the line is 1 or 2 above its line and its way is not -1", Rule2StreamsTest::above);
        check.sentence("or 1 or 2 below and its way is not 1", Rule2StreamsTest::below);
        check.sentence("its way is that one, its line is this line, it is the last used", Rule2StreamsTest::goesOn);
        check.sentence("line + way to line + d * way", Rule2StreamsTest::says);
        check.sentence("Without one a new one begins with this line", Rule2StreamsTest::begins);
        check.sentence("as last used; the one used longest ago goes when there are 8", Rule2StreamsTest::longestAgoGoes);
        check.sentence("nothing is said", Rule2StreamsTest::nothingIsSaid);
        check.sentence("Sums of lines are of 32 bits.", Rule2StreamsTest::wraps);
        check.end();
    }

    private static PrefetchRules begun(int degree, int... lines) {
        PrefetchRules x = new PrefetchRules(2, degree, 32, 64);
        for (int line : lines) {
            x.access(0, line);
        }
        return x;
    }

    private static void waysDue(PrefetchRules x, int... ways) {
        check.known(x, 0, ways.length);
        for (int k = 0; k < ways.length; k++) {
            check.trust(x, k, ways[k]);
        }
        check.trust(x, ways.length, 0);
    }

    private static void atMostEight() {
        PrefetchRules x = begun(1);
        for (int i = 1; i <= 12; i++) {
            x.access(0, 100 * i);
            check.known(x, 0, Math.min(8, i));
        }
        // The newest eight are there, the ninth newest is not.
        for (int i = 5; i <= 12; i++) {
            x.access(0, 100 * i + 1);
            check.known(x, 0, 8);
        }
        waysDue(x, 1, 1, 1, 1, 1, 1, 1, 1);
        x.access(0, 401);
        waysDue(x, 0, 1, 1, 1, 1, 1, 1, 1);
    }

    private static void noWayYet() {
        waysDue(begun(1));
        waysDue(begun(1, 100), 0);
        // Without a way it goes up as well as down.
        waysDue(begun(1, 100, 101), 1);
        waysDue(begun(1, 100, 99), -1);
    }

    private static void lastUsedFirst() {
        // 102 is within reach of 100 and of 103: the one used last takes it.
        PrefetchRules x = begun(1, 100, 103, 102);
        waysDue(x, -1, 0);
        check.queue(x, 101);
        PrefetchRules y = begun(1, 103, 100, 102);
        waysDue(y, 1, 0);
        check.queue(y);
        check.count(y, 6, 1);
        // The first one by last use does not take it, the second does.
        PrefetchRules z = begun(1, 10, 50, 51, 49, 12);
        waysDue(z, 1, 0, 1);
        z.access(0, 47);
        waysDue(z, -1, 1, 1);
        // The last of eight takes it.
        PrefetchRules last = begun(1, 100, 200, 300, 400, 500, 600, 700, 800, 98);
        waysDue(last, -1, 0, 0, 0, 0, 0, 0, 0);
    }

    private static void above() {
        waysDue(begun(1, 100, 101), 1);
        waysDue(begun(1, 100, 102), 1);
        waysDue(begun(1, 100, 103), 0, 0);
        // With the way up it goes on.
        waysDue(begun(1, 100, 101, 102), 1);
        waysDue(begun(1, 100, 101, 103), 1);
        waysDue(begun(1, 100, 101, 104), 0, 1);
        // With the way down it does not turn.
        waysDue(begun(1, 100, 99, 100), 0, -1);
        waysDue(begun(1, 100, 98, 100), 0, -1);
    }

    private static void below() {
        waysDue(begun(1, 100, 99), -1);
        waysDue(begun(1, 100, 98), -1);
        waysDue(begun(1, 100, 97), 0, 0);
        waysDue(begun(1, 100, 99, 98), -1);
        waysDue(begun(1, 100, 99, 97), -1);
        waysDue(begun(1, 100, 99, 96), 0, -1);
        waysDue(begun(1, 100, 101, 100), 0, 1);
        waysDue(begun(1, 100, 102, 100), 0, 1);
    }

    private static void goesOn() {
        waysDue(begun(1, 100, 101, 103, 104), 1);
        waysDue(begun(1, 100, 99, 97, 96), -1);
        // 104 is 2 above 102, and 4 above the line that the stream began with.
        waysDue(begun(1, 100, 102, 104, 106), 1);
        // The stream of 10 is used again, and stands before that of 50.
        PrefetchRules x = begun(1, 10, 50, 90);
        x.access(0, 11);
        waysDue(x, 1, 0, 0);
        x.access(0, 49);
        waysDue(x, -1, 1, 0);
        x.access(0, 13);
        waysDue(x, 1, -1, 0);
        x.access(0, 88);
        waysDue(x, -1, 1, -1);
    }

    private static void says() {
        check.queue(begun(1, 100, 101), 102);
        check.queue(begun(2, 100, 101), 102, 103);
        check.queue(begun(3, 100, 102), 103, 104, 105);
        check.queue(begun(4, 100, 102), 103, 104, 105, 106);
        check.queue(begun(1, 100, 99), 98);
        check.queue(begun(3, 100, 98), 97, 96, 95);
        check.queue(begun(4, 100, 98), 97, 96, 95, 94);
        check.queue(begun(1, 100, 101, 103, 104), 102, 105);
    }

    private static void begins() {
        waysDue(begun(1, 100, 97), 0, 0);
        waysDue(begun(1, 100, 103), 0, 0);
        // The line itself is neither above nor below.
        waysDue(begun(1, 100, 100), 0, 0);
        waysDue(begun(1, 100, 100, 100), 0, 0, 0);
        waysDue(begun(1, 100, 101, 101), 0, 1);
        waysDue(begun(1, 100, 99, 99), 0, -1);
        // Another stream may take it: 100 is 2 above 98.
        waysDue(begun(1, 98, 103, 100, 100), 0, 1, 0);
        // The new one has this line.
        waysDue(begun(1, 100, 500, 501), 1, 0);
    }

    private static void longestAgoGoes() {
        PrefetchRules x = begun(1, 100, 200, 300, 400, 500, 600, 700, 800);
        waysDue(x, 0, 0, 0, 0, 0, 0, 0, 0);
        x.access(0, 101);
        waysDue(x, 1, 0, 0, 0, 0, 0, 0, 0);
        x.access(0, 900);
        waysDue(x, 0, 1, 0, 0, 0, 0, 0, 0);
        // 200 was the one used longest ago: 201 finds no stream, and drives 300 out.
        x.access(0, 201);
        waysDue(x, 0, 0, 1, 0, 0, 0, 0, 0);
        x.access(0, 401);
        waysDue(x, 1, 0, 0, 1, 0, 0, 0, 0);
        x.access(0, 301);
        waysDue(x, 0, 1, 0, 0, 1, 0, 0, 0);
        x.access(0, 103);
        waysDue(x, 1, 0, 1, 0, 0, 0, 0, 0);
        x.access(0, 798);
        waysDue(x, -1, 1, 0, 1, 0, 0, 0, 0);
        check.queue(x, 102, 402, 104, 797);
        // Seven of them: none goes.
        PrefetchRules y = begun(1, 100, 200, 300, 400, 500, 600, 700, 800, 101);
        waysDue(y, 1, 0, 0, 0, 0, 0, 0, 0);
    }

    private static void nothingIsSaid() {
        check.queue(begun(4, 100));
        check.queue(begun(4, 100, 103));
        check.queue(begun(4, 100, 97));
        check.queue(begun(4, 100, 100, 100));
        // What was said for 101 is not said again for a line that begins a stream.
        PrefetchRules x = begun(2, 100, 101, 101, 500);
        check.queue(x, 102, 103);
        check.count(x, 6, 0);
        check.count(begun(4, 100, 200, 300, 400, 500, 600, 700, 800, 900), 8, 0);
    }

    private static void wraps() {
        PrefetchRules up = begun(2, MAX, MIN);
        waysDue(up, 1);
        check.queue(up, MIN + 1, MIN + 2);
        PrefetchRules down = begun(2, MIN + 1, MAX);
        waysDue(down, -1);
        check.queue(down, MAX - 1, MAX - 2);
        waysDue(begun(1, MAX, MIN + 1), 1);
        waysDue(begun(1, MAX, MIN + 2), 0, 0);
        waysDue(begun(1, MAX - 1, MIN), 1);
        waysDue(begun(1, MAX - 2, MIN), 0, 0);
        waysDue(begun(1, MIN, MAX), -1);
        waysDue(begun(1, MIN, MAX - 1), -1);
        waysDue(begun(1, MIN, MAX - 2), 0, 0);
        waysDue(begun(1, MIN + 1, MAX), -1);
        waysDue(begun(1, MIN + 2, MAX), 0, 0);
        // What is said goes over the end.
        check.queue(begun(3, MAX - 2, MAX - 1), MAX, MIN, MIN + 1);
        check.queue(begun(3, MIN + 2, MIN + 1), MIN, MAX, MAX - 1);
        // Half the ints away is no neighbour.
        waysDue(begun(1, 0, MIN), 0, 0);
        waysDue(begun(1, -1, MAX), 0, 0);
    }
}
