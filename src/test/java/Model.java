import java.util.ArrayDeque;
import java.util.ArrayList;
import java.util.HashMap;
import java.util.LinkedHashMap;
import java.util.List;
import java.util.Map;

/**
 * The document once more, written with the library's collections and without a thought for room or
 * speed, so that long runs of any calls have something to be compared with.
 */
final class Model {
    private static final int[] CANDIDATES = {1, 2, 3, 4, 5, 6, 8, 9, 10, 12, 15, 16};

    private final int rule;
    private final int degree;
    private final int latency;
    private final int greatest;
    private final int[] counts = new int[14];

    /** The line used longest ago first; the value is the mark. */
    private final LinkedHashMap<Integer, Boolean> store = new LinkedHashMap<>();
    private final LinkedHashMap<Integer, Integer> queue = new LinkedHashMap<>();

    /** By lowest bits of the place: place, line, stride, trust. */
    private final Map<Integer, int[]> strides = new HashMap<>();
    /** Line, way; the one used last at the front. */
    private final ArrayList<int[]> streams = new ArrayList<>();
    private final ArrayDeque<Integer> row = new ArrayDeque<>();
    private int[] scores = new int[12];
    private int tries;
    private int offset = 1;
    /** By lowest bits of the line: the line, then what came behind it, the newer one first. */
    private final Map<Integer, List<Integer>> pairs = new HashMap<>();
    private Integer before;

    Model(int rule, int degree, int latency, int lines) {
        this.rule = (int) mod(rule, 5);
        this.degree = (int) (1 + mod(degree - 1L, 4));
        this.latency = (int) (1 + mod(latency - 1L, 32));
        this.greatest = (int) (1 + mod(lines - 1L, 64));
    }

    private static long mod(long a, long b) {
        long rest = a % b;
        return rest < 0 ? rest + b : rest;
    }

    int access(int place, int line) {
        counts[0]++;
        cycle();
        int answer = ask(line);
        counts[answer == 1 ? 1 : answer == 2 ? 2 : 3]++;
        for (int said : say(place, line)) {
            if (store.containsKey(said) || queue.containsKey(said)) {
                counts[6]++;
            } else if (queue.size() == 8) {
                counts[7]++;
            } else {
                queue.put(said, counts[9] + latency);
                counts[8]++;
            }
        }
        row.addLast(line);
        if (row.size() > 32) {
            row.removeFirst();
        }
        before = line;
        return answer;
    }

    private int cycle() {
        counts[9]++;
        int came = 0;
        for (Map.Entry<Integer, Integer> fetch : new ArrayList<>(queue.entrySet())) {
            if (fetch.getValue() == counts[9]) {
                queue.remove(fetch.getKey());
                come(fetch.getKey(), true);
                came++;
            }
        }
        return came;
    }

    private void come(int line, boolean mark) {
        if (store.size() == greatest && store.remove(store.keySet().iterator().next())) {
            counts[5]++;
        }
        store.put(line, mark);
    }

    private int ask(int line) {
        if (store.containsKey(line)) {
            if (store.remove(line)) {
                counts[4]++;
            }
            store.put(line, false);
            return 1;
        }
        boolean late = queue.remove(line) != null;
        come(line, false);
        return late ? 2 : 0;
    }

    private List<Integer> say(int place, int line) {
        switch (rule) {
            case 1: return steps(line, stride(place, line));
            case 2: return steps(line, stream(line));
            case 3: return steps(line, offset(line));
            case 4: return pair(line);
            default: return steps(line, 1);
        }
    }

    private List<Integer> steps(int line, int step) {
        List<Integer> said = new ArrayList<>();
        int at = line;
        for (int k = 0; k < degree && step != 0; k++) {
            at += step;
            said.add(at);
        }
        return said;
    }

    private int stride(int place, int line) {
        int[] r = strides.get(place & 15);
        if (r == null || r[0] != place) {
            strides.put(place & 15, new int[] {place, line, 0, 0});
            return 0;
        }
        int s = line - r[1];
        r[1] = line;
        if (s == r[2]) {
            r[3] += r[3] == 3 ? 0 : 1;
        } else if (r[3] == 0) {
            r[2] = s;
        } else {
            r[3]--;
        }
        return r[3] >= 2 ? r[2] : 0;
    }

    private int stream(int line) {
        for (int[] s : streams) {
            boolean above = line == s[0] + 1 || line == s[0] + 2;
            boolean below = line == s[0] - 1 || line == s[0] - 2;
            if (above && s[1] != -1 || below && s[1] != 1) {
                streams.remove(s);
                streams.add(0, new int[] {line, above ? 1 : -1});
                return above ? 1 : -1;
            }
        }
        streams.add(0, new int[] {line, 0});
        if (streams.size() > 8) {
            streams.remove(8);
        }
        return 0;
    }

    private int offset(int line) {
        int k = tries % 12;
        tries++;
        if (row.contains(line - CANDIDATES[k])) {
            scores[k]++;
        }
        if (scores[k] == 15 || tries == 240) {
            int best = 0;
            int of = 0;
            for (int j = 11; j >= 0; j--) {
                if (scores[j] >= best) {
                    best = scores[j];
                    of = CANDIDATES[j];
                }
            }
            offset = best < 4 ? 0 : of;
            scores = new int[12];
            tries = 0;
            counts[13]++;
        }
        return offset;
    }

    private List<Integer> pair(int line) {
        if (before != null) {
            List<Integer> p = pairs.get(before & 63);
            if (p == null || !p.get(0).equals(before)) {
                p = new ArrayList<>(List.of(before));
                pairs.put(before & 63, p);
            }
            if (p.size() == 1 || p.get(1) != line) {
                p.add(1, line);
            }
            if (p.size() > 3) {
                p.remove(3);
            }
        }
        List<Integer> behind = behind(line);
        return behind.subList(0, Math.min(behind.size(), degree > 1 ? 2 : 1));
    }

    private List<Integer> behind(int line) {
        List<Integer> p = pairs.get(line & 63);
        return p == null || p.get(0) != line ? List.of() : p.subList(1, p.size());
    }

    int pass(int n) {
        if (n < 1 || n > 100) {
            throw new IllegalArgumentException();
        }
        int came = 0;
        for (int k = 0; k < n; k++) {
            came += cycle();
        }
        return came;
    }

    int finish() {
        int ended = queue.size() + count(12);
        queue.clear();
        store.replaceAll((line, mark) -> false);
        counts[5] += ended;
        return ended;
    }

    int state(int line) {
        return store.containsKey(line) ? store.get(line) ? 2 : 1 : queue.containsKey(line) ? 3 : 0;
    }

    int stored(int k) {
        if (k < 0 || k >= store.size()) {
            throw new IndexOutOfBoundsException();
        }
        return new ArrayList<>(store.keySet()).get(store.size() - 1 - k);
    }

    int queued(int k, int what) {
        if (k < 0 || k >= queue.size() || what < 0 || what > 1) {
            throw new IndexOutOfBoundsException();
        }
        return what == 0 ? new ArrayList<>(queue.keySet()).get(k) : new ArrayList<>(queue.values()).get(k) - counts[9];
    }

    int known(int of) {
        switch (rule) {
            case 1: return strides.containsKey(of & 15) && strides.get(of & 15)[0] == of ? strides.get(of & 15)[2] : 0;
            case 2: return streams.size();
            case 3: return offset;
            case 4: return behind(of).size() > 0 ? behind(of).get(0) : -1;
            default: return 0;
        }
    }

    int trust(int of) {
        switch (rule) {
            case 1: return strides.containsKey(of & 15) && strides.get(of & 15)[0] == of ? strides.get(of & 15)[3] : 0;
            case 2: return of >= 0 && of < streams.size() ? streams.get(of)[1] : 0;
            case 3: return of >= 0 && of < 12 ? scores[of] : 0;
            case 4: return behind(of).size() > 1 ? behind(of).get(1) : -1;
            default: return 0;
        }
    }

    int count(int what) {
        if (what == 10) {
            return store.size();
        }
        if (what == 11) {
            return queue.size();
        }
        if (what == 12) {
            int marks = 0;
            for (boolean mark : store.values()) {
                marks += mark ? 1 : 0;
            }
            return marks;
        }
        return what < 0 || what > 13 ? -1 : counts[what];
    }
}
