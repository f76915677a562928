/** What holds for all calls: an object's 512 calls, calls that only ask, and calls that are refused. */
public final class TermsTest {
    private static final Check check = new Check();

    public static void main(String[] args) {
        check.sentence("An object is used for at most 512 calls", TermsTest::all512Calls);
        check.sentence("`NONE = -1`: Nothing there.", TermsTest::none);
        check.sentence("Nothing is promised beyond the answers and state changes described above",
                TermsTest::askingChangesNothing);
        check.end();
    }

    /** The 512th call, whichever it is, answers as the document says. */
    private static void all512Calls() {
        for (int rule = 0; rule < 5; rule++) {
            for (int last = 0; last < 9; last++) {
                PrefetchRules x = new PrefetchRules(rule, 4, 3, 64);
                Model model = new Model(rule, 4, 3, 64);
                for (int n = 1; n < 512; n++) {
                    int place = n % 5;
                    int line = n % 5 * 1000 + n / 5 * 3;
                    check.access(x, place, line, model.access(place, line));
                }
                lastCall(x, model, last);
            }
        }
    }

    private static void lastCall(PrefetchRules x, Model model, int last) {
        switch (last) {
            case 0: check.access(x, 4, 1300, model.access(4, 1300)); break;
            case 1: check.pass(x, 100, model.pass(100)); break;
            case 2: check.finish(x, model.finish()); break;
            case 3: check.state(x, 1303, model.state(1303)); break;
            case 4: check.due("stored(63)", x.stored(63), model.stored(63)); break;
            case 5: check.noneQueued(x, 8, 0); break;
            case 6: check.known(x, 1, model.known(1)); break;
            case 7: check.trust(x, 2, model.trust(2)); break;
            default: check.count(x, 8, model.count(8));
        }
    }

    private static void none() {
        check.due("NONE", PrefetchRules.NONE, -1);
    }

    private static void askingChangesNothing() {
        for (int rule = 0; rule < 5; rule++) {
            PrefetchRules asked = new PrefetchRules(rule, 2, 2, 4);
            PrefetchRules left = new PrefetchRules(rule, 2, 2, 4);
            for (int n = 0; n < 12; n++) {
                check.access(asked, n % 2, n / 2 * 2, left.access(n % 2, n / 2 * 2));
                askEverything(asked);
                sameState(asked, left);
            }
        }
    }

    private static void askEverything(PrefetchRules x) {
        for (int k : new int[] {-1, 0, 1, 2, 11, 12, 63, 64, Integer.MIN_VALUE, Integer.MAX_VALUE}) {
            x.state(k);
            x.known(k);
            x.trust(k);
            x.count(k);
        }
        check.noPass(x, 0);
        check.noPass(x, 101);
        check.noneStored(x, 4);
        check.noneQueued(x, 8, 0);
        check.noneQueued(x, 0, 2);
    }

    private static void sameState(PrefetchRules x, PrefetchRules left) {
        for (int what = 0; what < 14; what++) {
            check.count(x, what, left.count(what));
        }
        for (int k = 0; k < left.count(10); k++) {
            check.due("stored(" + k + ")", x.stored(k), left.stored(k));
            check.state(x, left.stored(k), left.state(left.stored(k)));
        }
        for (int k = 0; k < left.count(11); k++) {
            check.queued(x, k, left.queued(k, 0), left.queued(k, 1));
        }
        for (int of = 0; of < 16; of++) {
            check.known(x, of, left.known(of));
            check.trust(x, of, left.trust(of));
        }
    }
}
