import java.util.function.IntSupplier;

/** Compares answers with those that are due, and ends a test program with exit code 1 if one was wrong. */
final class Check {
    private int sentences;
    private int calls;
    private int wrong;
    private String sentence = "";

    /** A test of its own for a sentence of the document, whose words are told with every wrong answer. */
    void sentence(String words, Runnable test) {
        int before = calls;
        sentences++;
        sentence = "\"" + words + "\": ";
        try {
            test.run();
        } catch (RuntimeException e) {
            // The other sentences are to be tested all the same.
            isWrong("a call threw " + e);
        }
        if (calls == before) {
            isWrong("nothing was tested");
        }
        sentence = "";
    }

    void due(String call, long got, long want) {
        calls++;
        if (got != want) {
            isWrong(call + " answered " + got + ", due is " + want);
        }
    }

    /** The class must be the very one: the machine throws subclasses of IndexOutOfBoundsException. */
    void dueThrow(String call, Class<? extends RuntimeException> want, IntSupplier run) {
        calls++;
        String got;
        try {
            got = "answered " + run.getAsInt();
        } catch (RuntimeException e) {
            if (e.getClass() == want) {
                return;
            }
            got = "threw " + e.getClass().getName();
        }
        isWrong(call + " " + got + ", due is " + want.getName());
    }

    void dueAnswer(String call, RuntimeException thrown, long want) {
        calls++;
        isWrong(call + " threw " + thrown + ", due is " + want);
    }

    private void isWrong(String what) {
        wrong++;
        System.out.println(sentence + what);
    }

    void access(PrefetchRules x, int place, int line, int want) {
        due("access(" + place + ", " + line + ")", x.access(place, line), want);
    }

    void pass(PrefetchRules x, int n, int want) {
        due("pass(" + n + ")", x.pass(n), want);
    }

    void finish(PrefetchRules x, int want) {
        due("finish()", x.finish(), want);
    }

    void count(PrefetchRules x, int what, int want) {
        due("count(" + what + ")", x.count(what), want);
    }

    void counts(PrefetchRules x, int... want) {
        for (int what = 0; what < want.length; what++) {
            count(x, what, want[what]);
        }
    }

    void known(PrefetchRules x, int of, int want) {
        due("known(" + of + ")", x.known(of), want);
    }

    void trust(PrefetchRules x, int of, int want) {
        due("trust(" + of + ")", x.trust(of), want);
    }

    void state(PrefetchRules x, int line, int want) {
        due("state(" + line + ")", x.state(line), want);
    }

    void noneStored(PrefetchRules x, int k) {
        dueThrow("stored(" + k + ")", IndexOutOfBoundsException.class, () -> x.stored(k));
    }

    void noneQueued(PrefetchRules x, int k, int what) {
        dueThrow("queued(" + k + ", " + what + ")", IndexOutOfBoundsException.class, () -> x.queued(k, what));
    }

    void noPass(PrefetchRules x, int n) {
        dueThrow("pass(" + n + ")", IllegalArgumentException.class, () -> x.pass(n));
    }

    /** The whole store, the line used last first. */
    void store(PrefetchRules x, int... lines) {
        count(x, 10, lines.length);
        for (int k = 0; k < lines.length && k < x.count(10); k++) {
            due("stored(" + k + ")", x.stored(k), lines[k]);
        }
        noneStored(x, lines.length);
    }

    /** The lines of the whole queue in its order. */
    void queue(PrefetchRules x, int... lines) {
        count(x, 11, lines.length);
        for (int k = 0; k < lines.length && k < x.count(11); k++) {
            due("queued(" + k + ", 0)", x.queued(k, 0), lines[k]);
        }
        noneQueued(x, lines.length, 0);
    }

    /** A fetch of the queue with the cycles that it still takes. */
    void queued(PrefetchRules x, int k, int line, int cycles) {
        count(x, 11, Math.max(x.count(11), k + 1));
        if (k < x.count(11)) {
            due("queued(" + k + ", 0)", x.queued(k, 0), line);
            due("queued(" + k + ", 1)", x.queued(k, 1), cycles);
        }
    }

    void end() {
        System.out.println((sentences > 0 ? sentences + " sentences, " : "") + calls + " answers, " + wrong
                + " not as due");
        if (wrong != 0 || calls == 0) {
            System.exit(1);
        }
    }
}
