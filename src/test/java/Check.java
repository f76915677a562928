import java.util.function.IntSupplier;

/** Compares answers with those that are due, and ends a test program with exit code 1 if one was wrong. */
final class Check {
    private int calls;
    private int wrong;

    void due(String call, long got, long want) {
        calls++;
        if (got != want) {
            wrong++;
            System.out.println(call + " answered " + got + ", due is " + want);
        }
    }

    /** The class must be the very one: the machine throws subclasses of IndexOutOfBoundsException. */
    void dueThrow(String call, Class<? extends RuntimeException> want, IntSupplier run) {
        calls++;
        String got;
        try {
            got = "answered " + run.getAsInt();
        } catch (RuntimeException e) {
            if (e.getClass() == want) {
                return;
            }
            got = "threw " + e.getClass().getName();
        }
        wrong++;
        System.out.println(call + " " + got + ", due is " + want.getName());
    }

    void dueAnswer(String call, RuntimeException thrown, long want) {
        calls++;
        wrong++;
        System.out.println(call + " threw " + thrown + ", due is " + want);
    }

    void access(PrefetchRules x, int place, int line, int want) {
        due("access(" + place + ", " + line + ")", x.access(place, line), want);
    }

    void count(PrefetchRules x, int what, int want) {
        due("count(" + what + ")", x.count(what), want);
    }

    void counts(PrefetchRules x, int... want) {
        for (int what = 0; what < want.length; what++) {
            count(x, what, want[what]);
        }
    }

    void known(PrefetchRules x, int of, int want) {
        due("known(" + of + ")", x.known(of), want);
    }

    void trust(PrefetchRules x, int of, int want) {
        due("trust(" + of + ")", x.trust(of), want);
    }

    void state(PrefetchRules x, int line, int want) {
        due("state(" + line + ")", x.state(line), want);
    }

    /** The whole store, the line used last first. */
    void store(PrefetchRules x, int... lines) {
        count(x, 10, lines.length);
        for (int k = 0; k < lines.length && k < x.count(10); k++) {
            due("stored(" + k + ")", x.stored(k), lines[k]);
        }
        dueThrow("stored(" + lines.length + ")", IndexOutOfBoundsException.class, () -> x.stored(lines.length));
    }

    /** The lines of the whole queue in its order. */
    void queue(PrefetchRules x, int... lines) {
        count(x, 11, lines.length);
        for (int k = 0; k < lines.length && k < x.count(11); k++) {
            due("queued(" + k + ", 0)", x.queued(k, 0), lines[k]);
        }
        dueThrow("queued(" + lines.length + ", 0)", IndexOutOfBoundsException.class, () -> x.queued(lines.length, 0));
    }

    void end() {
        System.out.println(calls + " answers, " + wrong + " not as due");
        if (wrong != 0 || calls == 0) {
            System.exit(1);
        }
    }
}
