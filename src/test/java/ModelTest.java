import java.util.Random;
import java.util.function.IntSupplier;

/** All promises: runs of 512 calls of all kinds, each answer compared with the model's. */
public final class ModelTest {
    private static final int RUNS = 4000;
    private static final int CALLS = 512;

    private static final Check check = new Check();

    private final Random random;
    private final PrefetchRules x;
    private final Model model;
    private final String made;
    private final int places;
    private final int width;
    private final int base;
    private final int jumps;
    private int line;
    private int step;

    private ModelTest(int seed) {
        random = new Random(seed);
        int rule = seed % 7 == 0 ? random.nextInt() : seed;
        int degree = number(6);
        int latency = random.nextInt(3) == 0 ? number(40) : random.nextInt(4);
        int lines = random.nextInt(2) == 0 ? number(70) : random.nextInt(9);
        x = new PrefetchRules(rule, degree, latency, lines);
        model = new Model(rule, degree, latency, lines);
        made = "seed " + seed + " (" + rule + ", " + degree + ", " + latency + ", " + lines + "): ";
        places = 1 + random.nextInt(40);
        width = 1 + random.nextInt(random.nextInt(3) == 0 ? 200 : 12);
        int[] bases = {0, 0, 1000, -5, Integer.MAX_VALUE - 5, random.nextInt()};
        base = bases[random.nextInt(bases.length)];
        jumps = 1 + random.nextInt(30);
        line = base;
        step = 1;
    }

    public static void main(String[] args) {
        for (int seed = 0; seed < RUNS; seed++) {
            new ModelTest(seed).run();
        }
        check.end();
    }

    private void run() {
        boolean longRun = random.nextInt(3) == 0;
        for (int call = 0; call < CALLS; call++) {
            if (longRun && call < 480 || random.nextInt(2) == 0) {
                access();
            } else {
                other();
            }
        }
    }

    /** Mostly small, sometimes any int. */
    private int number(int bound) {
        return random.nextInt(12) == 0 ? random.nextInt() : random.nextInt(bound + 4) - 2;
    }

    private int nextLine() {
        if (random.nextInt(jumps) == 0) {
            step = random.nextInt(9) - 4;
            line = base + random.nextInt(width);
        } else {
            line += step;
        }
        return random.nextInt(60) == 0 ? random.nextInt() : line;
    }

    private int someLine() {
        return random.nextInt(3) == 0 ? base + random.nextInt(width) : line + random.nextInt(13) - 6;
    }

    private void access() {
        int place = random.nextInt(places);
        int asked = nextLine();
        same("access(" + place + ", " + asked + ")", () -> x.access(place, asked), () -> model.access(place, asked));
    }

    private void other() {
        int k = number(12);
        int what = random.nextInt(4) - 1;
        int of = random.nextBoolean() ? someLine() : number(places);
        switch (random.nextInt(14)) {
            case 0:
                int n = random.nextInt(3) == 0 ? number(103) : 1 + random.nextInt(3);
                same("pass(" + n + ")", () -> x.pass(n), () -> model.pass(n));
                break;
            case 1:
                if (random.nextInt(5) == 0) {
                    same("finish()", x::finish, model::finish);
                }
                break;
            case 2: case 3:
                same("state(" + of + ")", () -> x.state(of), () -> model.state(of));
                break;
            case 4: case 5:
                same("stored(" + k + ")", () -> x.stored(k), () -> model.stored(k));
                break;
            case 6: case 7:
                same("queued(" + k + ", " + what + ")", () -> x.queued(k, what), () -> model.queued(k, what));
                break;
            case 8: case 9:
                same("known(" + of + ")", () -> x.known(of), () -> model.known(of));
                break;
            case 10: case 11:
                same("trust(" + of + ")", () -> x.trust(of), () -> model.trust(of));
                break;
            default:
                int c = number(14);
                same("count(" + c + ")", () -> x.count(c), () -> model.count(c));
        }
    }

    private void same(String call, IntSupplier got, IntSupplier want) {
        int due;
        try {
            due = want.getAsInt();
        } catch (IllegalArgumentException | IndexOutOfBoundsException e) {
            check.dueThrow(made + call, e.getClass(), got);
            return;
        }
        try {
            check.due(made + call, got.getAsInt(), due);
        } catch (RuntimeException e) {
            check.dueAnswer(made + call, e, due);
        }
    }
}
