/** Rule 3, OFFSETS: candidates that are tried in turn, rounds, and the row of the lines asked for last. */
public final class Rule3OffsetsTest {
    private static final int[] CANDIDATES = {1, 2, 3, 4, 5, 6, 8, 9, 10, 12, 15, 16};
    private static final int APART = 100000;

    private static final Check check = new Check();

    public static void main(String[] args) {
        offsetAtFirst();
        eachCandidate();
        endsWithFifteen();
        endsWithTwentyTries();
        leastOfSeveral();
        lastTryCounts();
        tooLow();
        offAndOn();
        rowOfThirtyTwo();
        rowGoesOn();
        rowWithTheSameLine();
        rowStaysAfterRound();
        emptyRow();
        wraps();
        check.end();
    }

    /** Feeds lines of which exactly the wished ones score: such a line is the one before it plus the candidate. */
    private static final class Feed {
        final PrefetchRules x;
        int tries;
        int fresh;
        int last;

        Feed(int degree) {
            x = new PrefetchRules(3, degree, 1, 64);
        }

        void access(boolean scores) {
            fresh += APART;
            last = scores ? last + CANDIDATES[tries % 12] : fresh;
            x.access(0, last);
            tries++;
        }

        /** A round's first tries: candidate k scores in its first wanted[k] turns behind the very first access. */
        void turns(int turns, int... wanted) {
            for (int turn = 0; turn < turns; turn++) {
                for (int k = 0; k < 12; k++) {
                    access(k < wanted.length && turn >= 1 && turn <= wanted[k]);
                }
            }
        }
    }

    private static void offsetAtFirst() {
        PrefetchRules x = new PrefetchRules(3, 3, 32, 64);
        x.access(0, 50);
        check.queue(x, 51, 52, 53);
        check.known(x, 0, 1);
    }

    private static void eachCandidate() {
        for (int k = 0; k < 12; k++) {
            int[] wanted = new int[12];
            wanted[k] = 4;
            Feed f = new Feed(2);
            f.turns(19, wanted);
            for (int j = 0; j < 12; j++) {
                check.trust(f.x, j, wanted[j]);
            }
            f.turns(1);
            check.known(f.x, 0, CANDIDATES[k]);
            check.queue(f.x, f.last + CANDIDATES[k], f.last + 2 * CANDIDATES[k]);
        }
    }

    private static void endsWithFifteen() {
        PrefetchRules x = new PrefetchRules(3, 2, 1, 64);
        for (int i = 0; i < 170; i++) {
            x.access(0, 3 * i);
        }
        check.known(x, 0, 1);
        check.trust(x, 2, 14);
        check.trust(x, 5, 14);
        check.trust(x, 0, 0);
        check.count(x, 13, 0);
        // The offset is the new one at the very access that ends the round.
        x.access(0, 510);
        check.known(x, 0, 3);
        check.count(x, 13, 1);
        check.queue(x, 513, 516);
        for (int k = 0; k < 12; k++) {
            check.trust(x, k, 0);
        }
        // The next access tries the first candidate: 600 - 1 is in the row only at the one behind it.
        x.access(0, 599);
        x.access(0, 600);
        check.trust(x, 0, 0);
        check.trust(x, 1, 0);
        x.access(0, 602);
        check.trust(x, 2, 1);
    }

    private static void endsWithTwentyTries() {
        Feed f = new Feed(1);
        f.turns(19, 0, 0, 0, 14);
        for (int k = 0; k < 11; k++) {
            f.access(false);
        }
        check.trust(f.x, 3, 14);
        check.known(f.x, 0, 1);
        check.count(f.x, 13, 0);
        f.access(false);
        check.known(f.x, 0, 4);
        check.count(f.x, 13, 1);
        check.trust(f.x, 3, 0);
        check.queue(f.x, f.last + 4);
    }

    private static void leastOfSeveral() {
        Feed f = new Feed(1);
        f.turns(20, 2, 6, 4, 5, 7, 0, 7, 7, 1, 0, 3, 6);
        check.known(f.x, 0, 5);
    }

    private static void lastTryCounts() {
        Feed f = new Feed(1);
        f.turns(19, 0, 0, 4, 0, 0, 0, 0, 0, 0, 0, 0, 4);
        for (int k = 0; k < 11; k++) {
            f.access(false);
        }
        f.access(true);
        check.known(f.x, 0, 16);
    }

    private static void tooLow() {
        Feed f = new Feed(4);
        f.turns(20, 3, 3, 3, 3, 3, 3, 3, 3, 3, 3, 3, 3);
        check.known(f.x, 0, 0);
        check.queue(f.x);
        check.count(f.x, 13, 1);
        for (int k = 0; k < 12; k++) {
            check.trust(f.x, k, 0);
        }
        int filtered = f.x.count(6);
        f.access(false);
        check.queue(f.x);
        check.count(f.x, 6, filtered);
    }

    private static void offAndOn() {
        Feed f = new Feed(1);
        f.turns(20);
        check.known(f.x, 0, 0);
        check.count(f.x, 8, 239);
        f.turns(20, 0, 0, 0, 0, 0, 0, 9);
        check.known(f.x, 0, 8);
        check.count(f.x, 13, 2);
        check.count(f.x, 8, 240);
    }

    private static void rowOfThirtyTwo() {
        Feed f = new Feed(1);
        for (int i = 0; i < 32; i++) {
            f.access(false);
        }
        // The 33rd access tries 10, and the first line is still in the row; the 34th tries 12, and it is not.
        f.x.access(0, APART + 10);
        check.trust(f.x, 8, 1);
        f.x.access(0, APART + 12);
        check.trust(f.x, 9, 0);
        f.x.access(0, 3 * APART + 15);
        check.trust(f.x, 10, 1);
    }

    private static void rowGoesOn() {
        PrefetchRules in = askedAgain(32);
        PrefetchRules out = askedAgain(33);
        for (int k = 0; k < 12; k++) {
            check.trust(in, k, 12);
            check.trust(out, k, 0);
        }
    }

    /** 15 turns, of which all but the first three ask for a candidate more than the line so many accesses ago. */
    private static PrefetchRules askedAgain(int ago) {
        PrefetchRules x = new PrefetchRules(3, 1, 1, 64);
        int[] lines = new int[180];
        for (int n = 0; n < lines.length; n++) {
            lines[n] = n < 36 ? APART * n : lines[n - ago] + CANDIDATES[n % 12];
            x.access(0, lines[n]);
        }
        return x;
    }

    private static void rowWithTheSameLine() {
        PrefetchRules x = new PrefetchRules(3, 1, 1, 8);
        x.access(0, APART);
        for (int i = 0; i < 32; i++) {
            x.access(0, 5);
        }
        x.access(0, APART + 12);
        check.trust(x, 9, 0);

        PrefetchRules y = new PrefetchRules(3, 1, 1, 8);
        y.access(0, APART);
        for (int i = 0; i < 31; i++) {
            y.access(0, 5);
        }
        y.access(0, APART + 10);
        check.trust(y, 8, 1);
    }

    private static void rowStaysAfterRound() {
        Feed f = new Feed(1);
        f.turns(20);
        f.access(true);
        check.trust(f.x, 0, 1);
    }

    private static void emptyRow() {
        PrefetchRules x = new PrefetchRules(3, 1, 1, 8);
        // A place of the row that nothing stands in yet is not the line 0.
        x.access(0, 1);
        x.access(0, 2);
        check.trust(x, 0, 0);
        check.trust(x, 1, 0);
        x.access(0, 4);
        check.trust(x, 2, 1);
    }

    private static void wraps() {
        PrefetchRules x = new PrefetchRules(3, 1, 1, 8);
        x.access(0, Integer.MAX_VALUE);
        check.queue(x, Integer.MIN_VALUE);
        x.access(0, Integer.MIN_VALUE + 1);
        check.trust(x, 1, 1);
    }
}
