import java.util.Arrays;

/** Rule 3, OFFSETS: candidates that are tried in turn, rounds, and the row of the lines asked for last. */
public final class Rule3OffsetsTest {
    private static final int[] CANDIDATES = {1, 2, 3, 4, 5, 6, 8, 9, 10, 12, 15, 16};
    private static final int APART = 100000;

    private static final Check check = new Check();

    public static void main(String[] args) {
        check.sentence("a row of the 32 lines asked for last", Rule3OffsetsTest::rowOfThirtyTwo);
        check.sentence("a row of the 32 lines asked for last", Rule3OffsetsTest::emptyRow);
        check.sentence("(behind step 3 each line is put there, the oldest goes)", Rule3OffsetsTest::rowGoesOn);
        check.sentence("(behind step 3 each line is put there, the oldest goes)", Rule3OffsetsTest::rowWithTheSameLine);
        check.sentence("an OFFSET, 1 at first", Rule3OffsetsTest::offsetAtFirst);
        check.sentence("candidates 1, 2, 3, 4, 5, 6, 8, 9, 10, 12, 15, 16 with scores 0",
                Rule3OffsetsTest::eachCandidate);
        check.sentence("tried in turn, one an access", Rule3OffsetsTest::oneAnAccess);
        check.sentence("when the line less the candidate is in the row its score goes up by 1",
                Rule3OffsetsTest::goesUpByOne);
        check.sentence("when it is 15", Rule3OffsetsTest::endsWithFifteen);
        check.sentence("or all candidates have been tried 20 times, a ROUND ends", Rule3OffsetsTest::endsWithTwentyTries);
        check.sentence("the offset is the candidate with the greatest score", Rule3OffsetsTest::lastTryCounts);
        check.sentence("(the least one, of several;", Rule3OffsetsTest::leastOfSeveral);
        check.sentence("0, when that is below 4", Rule3OffsetsTest::belowFour);
        check.sentence("then nothing is said", Rule3OffsetsTest::nothingIsSaid);
        check.sentence("scores and turns begin anew (with the first candidate, at the next access)",
                Rule3OffsetsTest::beginsAnew);
        check.sentence("scores and turns begin anew", Rule3OffsetsTest::rowStaysAfterRound);
        check.sentence("scores and turns begin anew", Rule3OffsetsTest::threeRounds);
        check.sentence("Then (with the offset as it is now) line + offset to line + d * offset.",
                Rule3OffsetsTest::offsetAsItIsNow);
        check.sentence("Sums of lines are of 32 bits.", Rule3OffsetsTest::wraps);
        check.end();
    }

    /** Feeds lines of which exactly the wished ones score: such a line is the one before it plus the candidate. */
    private static final class Feed {
        final PrefetchRules x;
        int tries;
        int fresh;
        int last;

        Feed(int degree) {
            x = new PrefetchRules(3, degree, 1, 64);
        }

        void access(boolean scores) {
            fresh += APART;
            last = scores ? last + CANDIDATES[tries % 12] : fresh;
            x.access(0, last);
            tries++;
        }

        /** A line that scores for the candidate of this turn, wherever the rounds stand. */
        void accessOf(int turn) {
            last += CANDIDATES[turn % 12];
            x.access(0, last);
        }

        /** A round's first tries: candidate k scores in its first wanted[k] turns behind the very first access. */
        void turns(int turns, int... wanted) {
            for (int turn = 0; turn < turns; turn++) {
                for (int k = 0; k < 12; k++) {
                    access(k < wanted.length && turn >= 1 && turn <= wanted[k]);
                }
            }
        }
    }

    private static void offsetAtFirst() {
        PrefetchRules x = new PrefetchRules(3, 3, 32, 64);
        x.access(0, 50);
        check.queue(x, 51, 52, 53);
        check.known(x, 0, 1);
    }

    private static void eachCandidate() {
        for (int k = 0; k < 12; k++) {
            int[] wanted = new int[12];
            wanted[k] = 4;
            Feed f = new Feed(2);
            f.turns(19, wanted);
            for (int j = 0; j < 12; j++) {
                check.trust(f.x, j, wanted[j]);
            }
            f.turns(1);
            check.known(f.x, 0, CANDIDATES[k]);
            check.queue(f.x, f.last + CANDIDATES[k], f.last + 2 * CANDIDATES[k]);
        }
    }

    private static void oneAnAccess() {
        // Only the candidate whose turn it is may score, though the row has what others would need.
        Feed f = new Feed(1);
        f.access(false);
        for (int n = 1; n < 60; n++) {
            int[] before = scores(f.x);
            f.access(true);
            for (int k = 0; k < 12; k++) {
                check.trust(f.x, k, before[k] + (k == n % 12 ? 1 : 0));
            }
        }
    }

    private static int[] scores(PrefetchRules x) {
        int[] scores = new int[12];
        for (int k = 0; k < 12; k++) {
            scores[k] = x.trust(k);
        }
        return scores;
    }

    private static void goesUpByOne() {
        // By 1 though the line stands there many times; the line more the candidate does not count.
        PrefetchRules x = new PrefetchRules(3, 1, 1, 8);
        for (int i = 0; i < 12; i++) {
            x.access(0, 70);
        }
        x.access(0, 71);
        check.trust(x, 0, 1);
        x.access(0, 68);
        check.trust(x, 1, 0);
        x.access(0, 70);
        check.trust(x, 2, 0);
        x.access(0, 74);
        check.trust(x, 3, 1);
    }

    /** Steps of 3: 3 and all its multiples score, 3 the first of them to have 15. */
    private static PrefetchRules inThrees(int accesses) {
        PrefetchRules x = new PrefetchRules(3, 2, 1, 64);
        for (int i = 0; i < accesses; i++) {
            x.access(0, 3 * i);
        }
        return x;
    }

    private static void endsWithFifteen() {
        PrefetchRules x = inThrees(170);
        check.known(x, 0, 1);
        check.trust(x, 2, 14);
        check.trust(x, 5, 14);
        check.trust(x, 0, 0);
        check.count(x, 13, 0);
        x.access(0, 510);
        check.known(x, 0, 3);
        check.count(x, 13, 1);
    }

    private static void beginsAnew() {
        PrefetchRules x = inThrees(171);
        for (int k = 0; k < 12; k++) {
            check.trust(x, k, 0);
        }
        // The next access tries the first candidate: 600 - 1 is in the row only at the one behind it.
        x.access(0, 599);
        x.access(0, 600);
        check.trust(x, 0, 0);
        check.trust(x, 1, 0);
        x.access(0, 602);
        check.trust(x, 2, 1);
        PrefetchRules y = inThrees(171);
        y.access(0, 511);
        check.trust(y, 0, 1);
        // The second round takes its own 20 turns.
        Feed f = new Feed(1);
        f.turns(20);
        check.count(f.x, 13, 1);
        for (int k = 0; k < 239; k++) {
            f.access(false);
        }
        check.count(f.x, 13, 1);
        f.access(false);
        check.count(f.x, 13, 2);
    }

    private static void threeRounds() {
        // As fast as rounds can go: 170 accesses, then 169 for each one more.
        Feed f = new Feed(1);
        f.access(false);
        int[] ends = {170, 339, 508};
        for (int n = 2; n <= 512; n++) {
            int done = f.x.count(13);
            f.accessOf(n - 1 - (done == 0 ? 0 : ends[done - 1]));
            check.count(f.x, 13, n < 170 ? 0 : n < 339 ? 1 : n < 508 ? 2 : 3);
        }
        check.trust(f.x, 0, 1);
        check.known(f.x, 0, 1);
    }

    private static void offsetAsItIsNow() {
        PrefetchRules x = inThrees(170);
        check.queue(x, 508, 509);
        // The offset is the new one at the very access that ends the round.
        x.access(0, 510);
        check.queue(x, 513, 516);
        x.access(0, 900);
        check.queue(x, 903, 906);
        // With every degree.
        for (int degree = 1; degree <= 4; degree++) {
            Feed f = new Feed(degree);
            f.turns(20, 0, 0, 0, 0, 0, 0, 0, 0, 0, 0, 0, 9);
            int[] due = {f.last + 16, f.last + 32, f.last + 48, f.last + 64};
            check.queue(f.x, Arrays.copyOf(due, degree));
        }
    }

    private static void endsWithTwentyTries() {
        Feed f = new Feed(1);
        f.turns(19, 0, 0, 0, 14);
        for (int k = 0; k < 11; k++) {
            f.access(false);
        }
        check.trust(f.x, 3, 14);
        check.known(f.x, 0, 1);
        check.count(f.x, 13, 0);
        f.access(false);
        check.known(f.x, 0, 4);
        check.count(f.x, 13, 1);
        check.trust(f.x, 3, 0);
        check.queue(f.x, f.last + 4);
    }

    private static void leastOfSeveral() {
        Feed f = new Feed(1);
        f.turns(20, 2, 6, 4, 5, 7, 0, 7, 7, 1, 0, 3, 6);
        check.known(f.x, 0, 5);
    }

    private static void lastTryCounts() {
        Feed f = new Feed(1);
        f.turns(19, 0, 0, 4, 0, 0, 0, 0, 0, 0, 0, 0, 4);
        for (int k = 0; k < 11; k++) {
            f.access(false);
        }
        f.access(true);
        check.known(f.x, 0, 16);
    }

    private static void belowFour() {
        Feed f = new Feed(4);
        f.turns(20, 3, 3, 3, 3, 3, 3, 3, 3, 3, 3, 3, 3);
        check.known(f.x, 0, 0);
        check.count(f.x, 13, 1);
        Feed four = new Feed(4);
        four.turns(20, 3, 3, 3, 3, 3, 3, 3, 3, 3, 3, 4, 3);
        check.known(four.x, 0, 15);
        Feed none = new Feed(4);
        none.turns(20);
        check.known(none.x, 0, 0);
    }

    private static void nothingIsSaid() {
        Feed f = new Feed(4);
        f.turns(20, 3, 3, 3);
        check.known(f.x, 0, 0);
        check.queue(f.x);
        int filtered = f.x.count(6);
        f.access(false);
        check.queue(f.x);
        check.count(f.x, 6, filtered);
        offAndOn();
    }

    private static void offAndOn() {
        Feed f = new Feed(1);
        f.turns(20);
        check.known(f.x, 0, 0);
        check.count(f.x, 8, 239);
        f.turns(20, 0, 0, 0, 0, 0, 0, 9);
        check.known(f.x, 0, 8);
        check.count(f.x, 13, 2);
        check.count(f.x, 8, 240);
    }

    private static void rowOfThirtyTwo() {
        Feed f = new Feed(1);
        for (int i = 0; i < 32; i++) {
            f.access(false);
        }
        // The 33rd access tries 10, and the first line is still in the row; the 34th tries 12, and it is not.
        f.x.access(0, APART + 10);
        check.trust(f.x, 8, 1);
        f.x.access(0, APART + 12);
        check.trust(f.x, 9, 0);
        f.x.access(0, 3 * APART + 15);
        check.trust(f.x, 10, 1);
    }

    private static void rowGoesOn() {
        PrefetchRules in = askedAgain(32);
        PrefetchRules out = askedAgain(33);
        for (int k = 0; k < 12; k++) {
            check.trust(in, k, 12);
            check.trust(out, k, 0);
        }
    }

    /** 15 turns, of which all but the first three ask for a candidate more than the line so many accesses ago. */
    private static PrefetchRules askedAgain(int ago) {
        PrefetchRules x = new PrefetchRules(3, 1, 1, 64);
        int[] lines = new int[180];
        for (int n = 0; n < lines.length; n++) {
            lines[n] = n < 36 ? APART * n : lines[n - ago] + CANDIDATES[n % 12];
            x.access(0, lines[n]);
        }
        return x;
    }

    private static void rowWithTheSameLine() {
        PrefetchRules x = new PrefetchRules(3, 1, 1, 8);
        x.access(0, APART);
        for (int i = 0; i < 32; i++) {
            x.access(0, 5);
        }
        x.access(0, APART + 12);
        check.trust(x, 9, 0);

        PrefetchRules y = new PrefetchRules(3, 1, 1, 8);
        y.access(0, APART);
        for (int i = 0; i < 31; i++) {
            y.access(0, 5);
        }
        y.access(0, APART + 10);
        check.trust(y, 8, 1);
    }

    private static void rowStaysAfterRound() {
        // Of the 240 lines of the round the last 32 are still there.
        Feed f = new Feed(1);
        f.turns(20);
        f.x.access(0, 209 * APART + 1);
        check.trust(f.x, 0, 1);
        f.x.access(0, 209 * APART + 2);
        check.trust(f.x, 1, 0);
        f.x.access(0, 240 * APART + 3);
        check.trust(f.x, 2, 1);
    }

    private static void emptyRow() {
        PrefetchRules x = new PrefetchRules(3, 1, 1, 8);
        // A place of the row that nothing stands in yet is not the line 0.
        x.access(0, 1);
        x.access(0, 2);
        check.trust(x, 0, 0);
        check.trust(x, 1, 0);
        x.access(0, 4);
        check.trust(x, 2, 1);
    }

    private static void wraps() {
        PrefetchRules x = new PrefetchRules(3, 4, 1, 8);
        x.access(0, Integer.MAX_VALUE);
        check.queue(x, Integer.MIN_VALUE, Integer.MIN_VALUE + 1, Integer.MIN_VALUE + 2, Integer.MIN_VALUE + 3);
        x.access(0, Integer.MIN_VALUE + 1);
        check.trust(x, 1, 1);
        x.access(0, Integer.MIN_VALUE + 2);
        check.trust(x, 2, 1);
        x.access(0, Integer.MIN_VALUE + 4);
        check.trust(x, 3, 0);
    }
}
