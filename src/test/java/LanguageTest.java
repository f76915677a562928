import java.io.IOException;
import java.lang.reflect.Field;
import java.lang.reflect.Method;
import java.lang.reflect.Modifier;
import java.nio.file.Files;
import java.nio.file.Path;
import java.util.Random;
import java.util.Set;
import java.util.TreeSet;
import java.util.function.IntSupplier;
import java.util.regex.Matcher;
import java.util.regex.Pattern;

/** What can be tested of ../shared/LANGUAGE.md; its rule 1 is tested in FaceTest too. */
public final class LanguageTest {
    private static final int MIN = Integer.MIN_VALUE;
    private static final int MAX = Integer.MAX_VALUE;
    // Beyond the 512 calls answers are free, but rule 7 speaks of any state.
    private static final int CALLS = 20_000;

    private static final Check check = new Check();

    private final Random random;
    private final PrefetchRules x;
    private final int rule;

    private LanguageTest(int seed) {
        random = new Random(seed);
        rule = Math.floorMod(seed, 5);
        x = new PrefetchRules(rule, any(), any(), any());
    }

    public static void main(String[] args) throws IOException {
        String code = codeAlone(Files.readString(Path.of("src/main/java/PrefetchRules.java")));
        check.sentence("No private method bears the name of a public one.", LanguageTest::names);
        check.sentence("The library: only what stands here.", () -> library(code));
        check.sentence("Static fields are final", LanguageTest::staticFields);
        check.sentence("Exceptions: throw new E() or throw new E(\"a written text\")", () -> words(code));
        check.sentence("No call may ever throw by itself (only by a throw statement) or fail to end",
                LanguageTest::longRuns);
        check.end();
    }

    private static String codeAlone(String source) {
        return source.replaceAll("(?s)/\\*.*?\\*/", "").replaceAll("//[^\n]*", "").replaceAll("\"[^\"\n]*\"", "TEXT");
    }

    private static void names() {
        Set<String> face = Set.of("access", "pass", "finish", "state", "stored", "queued", "known", "trust", "count");
        for (Method m : PrefetchRules.class.getDeclaredMethods()) {
            isDue(m.toString(), Modifier.isPublic(m.getModifiers()) == face.contains(m.getName()));
        }
        for (Class<?> inside : PrefetchRules.class.getDeclaredClasses()) {
            for (Method m : inside.getDeclaredMethods()) {
                isDue(m.toString(), !face.contains(m.getName()));
            }
        }
    }

    private static void library(String code) {
        Set<String> used = new TreeSet<>();
        Matcher call = Pattern.compile("\\b(Math|Integer|Long|System|Arrays|List|String|Character)\\.(\\w+)").matcher(code);
        while (call.find()) {
            used.add(call.group());
        }
        used.removeAll(Set.of("Math.floorMod", "Math.max", "Math.min"));
        check.due("calls of the library beside floorMod, max and min " + used, used.size(), 0);
        isDue("no import, no package", !Pattern.compile("(?m)^\\s*(import|package)\\b").matcher(code).find());
    }

    private static void staticFields() {
        fields(PrefetchRules.class);
        for (Class<?> inside : PrefetchRules.class.getDeclaredClasses()) {
            fields(inside);
        }
    }

    private static void fields(Class<?> type) {
        for (Field f : type.getDeclaredFields()) {
            int m = f.getModifiers();
            isDue(f.toString(), !Modifier.isStatic(m) || Modifier.isFinal(m));
        }
    }

    private static void words(String code) {
        String[] outside = {"\\btry\\b", "\\bcatch\\b", "\\bfinally\\b", "\\bsynchronized\\b", "\\bassert\\b", "->", "::",
            "\\bstatic\\s*\\{", "\\b(double|float)\\b",
            "\\bthrow\\b(?! new (IllegalArgument|IndexOutOfBounds)Exception\\((TEXT)?\\);)"};
        for (String word : outside) {
            isDue("nowhere " + word, !Pattern.compile(word).matcher(code).find());
        }
    }

    private static void longRuns() {
        for (int seed = 0; seed < 50; seed++) {
            LanguageTest run = new LanguageTest(seed);
            for (int n = 0; n < CALLS; n++) {
                run.call();
            }
            run.sums();
        }
    }

    private void call() {
        int a = random.nextInt(3) == 0 ? any() : random.nextInt(20);
        int b = random.nextInt(3) == 0 ? any() : random.nextInt(20);
        switch (random.nextInt(12)) {
            case 0: only("pass(" + a + ")", a < 1 || a > 100, IllegalArgumentException.class, () -> x.pass(a)); break;
            case 1: answers("finish()", x::finish); break;
            case 2: answers("state(" + a + ")", () -> x.state(a)); break;
            case 3: only("stored(" + a + ")", a < 0 || a >= x.count(10), IndexOutOfBoundsException.class, () -> x.stored(a)); break;
            case 4: only("queued(" + a + ", " + b + ")", a < 0 || a >= x.count(11) || b < 0 || b > 1,
                    IndexOutOfBoundsException.class, () -> x.queued(a, b)); break;
            case 5: answers("known(" + a + ")", () -> x.known(a)); break;
            case 6: answers("trust(" + a + ")", () -> x.trust(a)); break;
            case 7: answers("count(" + a + ")", () -> x.count(a)); break;
            default: answers("access(" + a + ", " + b + ")", () -> x.access(a, b));
        }
    }

    /** No fetch and no access is lost: what the counts say of one another. */
    private void sums() {
        check.due("accesses of rule " + rule, x.count(0), x.count(1) + x.count(2) + x.count(3));
        check.due("fetches of rule " + rule, x.count(8),
                x.count(2) + x.count(4) + x.count(5) + x.count(11) + x.count(12));
    }

    private int any() {
        int[] edges = {MIN, MIN + 1, -64, -1, 0, 1, 2, 8, 64, 100, 101, MAX - 1, MAX};
        return random.nextInt(4) == 0 ? random.nextInt() : edges[random.nextInt(edges.length)];
    }

    private static void only(String call, boolean refused, Class<? extends RuntimeException> want, IntSupplier run) {
        if (refused) {
            check.dueThrow(call, want, run);
        } else {
            answers(call, run);
        }
    }

    private static void answers(String call, IntSupplier run) {
        String thrown = "";
        try {
            run.getAsInt();
        } catch (RuntimeException e) {
            thrown = " threw " + e;
        }
        isDue(call + thrown, thrown.isEmpty());
    }

    private static void isDue(String what, boolean holds) {
        check.due(what, holds ? 1 : 0, 1);
    }
}
