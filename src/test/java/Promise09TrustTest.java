/** Promise 9: trust, ways, scores and older lines. */
public final class Promise09TrustTest {
    private static final int NONE = PrefetchRules.NONE;
    private static final int MIN = Integer.MIN_VALUE;
    private static final int MAX = Integer.MAX_VALUE;

    private static final Check check = new Check();

    public static void main(String[] args) {
        check.sentence("The trust of a place's row (rule 1)", Promise09TrustTest::strides);
        check.sentence("the way of stream k in their order (rule 2)", Promise09TrustTest::streams);
        check.sentence("the score of candidate k (rule 3)", Promise09TrustTest::offsets);
        check.sentence("the older line (rule 4; NONE without)", Promise09TrustTest::pairs);
        check.sentence("else 0", Promise09TrustTest::next);
        check.sentence("0 also when there is no such row", Promise09TrustTest::noSuchRow);
        check.sentence("0 also when there is no such [..] stream", Promise09TrustTest::noSuchStream);
        check.sentence("0 also when there is no such [..] candidate", Promise09TrustTest::noSuchCandidate);
        check.end();
    }

    private static void strides() {
        PrefetchRules x = new PrefetchRules(1, 1, 1, 4);
        int[] lines = {5, 8, 11, 14, 17, 20, 20, 20, 23, 0};
        int[] due = {0, 0, 1, 2, 3, 3, 2, 1, 2, 1};
        for (int k = 0; k < lines.length; k++) {
            x.access(-16, lines[k]);
            check.trust(x, -16, due[k]);
        }
    }

    private static void noSuchRow() {
        PrefetchRules x = new PrefetchRules(1, 1, 1, 4);
        for (int place : new int[] {0, 5, 15, -1, MIN, MAX}) {
            check.trust(x, place, 0);
        }
        for (int i = 0; i < 8; i++) {
            x.access(16, 3 * i);
        }
        check.trust(x, 16, 3);
        for (int place : new int[] {0, 1, 15, 32, -16, MIN, MAX}) {
            check.trust(x, place, 0);
        }
        // Another place takes the row.
        x.access(0, 7);
        check.trust(x, 16, 0);
        check.trust(x, 0, 0);
    }

    private static void streams() {
        PrefetchRules x = new PrefetchRules(2, 1, 1, 4);
        x.access(0, 10);
        x.access(0, 11);
        x.access(0, 50);
        x.access(0, 48);
        x.access(0, 90);
        check.trust(x, 0, 0);
        check.trust(x, 1, -1);
        check.trust(x, 2, 1);
        x.access(0, 13);
        check.trust(x, 0, 1);
        check.trust(x, 1, 0);
        check.trust(x, 2, -1);
        // All eight of them.
        PrefetchRules y = new PrefetchRules(2, 1, 1, 4);
        for (int i = 0; i < 8; i++) {
            y.access(0, 100 * i);
            y.access(0, 100 * i + (i % 2 == 0 ? 1 : -1));
        }
        for (int k = 0; k < 8; k++) {
            check.trust(y, k, k % 2 == 0 ? -1 : 1);
        }
    }

    private static void noSuchStream() {
        PrefetchRules x = new PrefetchRules(2, 1, 1, 4);
        check.trust(x, 0, 0);
        for (int i = 0; i < 10; i++) {
            x.access(0, 100 * i);
            x.access(0, 100 * i + 1);
            for (int k : new int[] {i + 1, 8, 9, -1, -8, MIN, MAX}) {
                check.trust(x, k, k >= 0 && k < Math.min(8, i + 1) ? 1 : 0);
            }
        }
    }

    private static void offsets() {
        PrefetchRules x = new PrefetchRules(3, 1, 1, 4);
        for (int i = 0; i < 24; i++) {
            x.access(0, i);
        }
        // In the first turn every candidate is greater than its line, so none scores before the second.
        for (int k = 0; k < 12; k++) {
            check.trust(x, k, 1);
        }
        x.access(0, 24);
        check.trust(x, 0, 2);
    }

    private static void noSuchCandidate() {
        PrefetchRules x = new PrefetchRules(3, 1, 1, 4);
        for (int i = 0; i < 60; i++) {
            x.access(0, i);
        }
        check.trust(x, 0, 4);
        check.trust(x, 11, 4);
        for (int k : new int[] {12, 13, 15, 16, -1, MIN, MAX}) {
            check.trust(x, k, 0);
        }
    }

    private static void pairs() {
        PrefetchRules x = new PrefetchRules(4, 1, 1, 4);
        check.trust(x, 0, NONE);
        x.access(0, 1);
        x.access(0, 5);
        // One line came behind 1, and none behind 5.
        check.trust(x, 1, NONE);
        check.trust(x, 5, NONE);
        x.access(0, 1);
        x.access(0, 9);
        check.trust(x, 1, 5);
        // A line that has no row has no older line, either.
        check.trust(x, 65, NONE);
        check.trust(x, -63, NONE);
        check.trust(x, MIN, NONE);
        check.trust(x, MAX, NONE);
        x.access(0, 1);
        x.access(0, 9);
        check.trust(x, 1, 5);
        x.access(0, 1);
        x.access(0, 5);
        check.trust(x, 1, 9);
    }

    private static void next() {
        PrefetchRules x = new PrefetchRules(0, 1, 1, 4);
        x.access(1, 5);
        x.access(1, 6);
        for (int of : new int[] {0, 1, 5, 6, -1, MIN, MAX}) {
            check.trust(x, of, 0);
        }
    }
}
