/** Promise 5: where a line is. */
public final class Promise05StateTest {
    private static final Check check = new Check();

    public static void main(String[] args) {
        PrefetchRules x = new PrefetchRules(0, 1, 2, 2);
        check.state(x, 10, 0);
        check.state(x, 0, 0);
        check.state(x, -1, 0);
        x.access(0, 10);
        check.state(x, 10, 1);
        check.state(x, 11, 3);
        check.state(x, 12, 0);
        x.pass(2);
        check.state(x, 11, 2);
        check.state(x, 10, 1);
        // To be asked about is no use: 10 is still the one used longest ago.
        check.state(x, 10, 1);
        check.store(x, 11, 10);
        x.access(0, 11);
        check.state(x, 11, 1);
        x.access(0, 40);
        check.state(x, 10, 0);
        x.access(0, 12);
        check.state(x, 11, 0);
        check.state(x, 12, 1);
        check.state(x, 41, 3);
        x.access(0, -1);
        check.state(x, -1, 1);
        check.state(x, 0, 3);
        check.state(x, Integer.MIN_VALUE, 0);
        check.state(x, Integer.MAX_VALUE, 0);
        check.end();
    }
}
