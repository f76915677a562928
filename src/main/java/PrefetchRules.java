/**
 * Lines that are fetched before they are asked for: five rules that say which, a queue of what is
 * on its way, a store of lines by their last use, and counts of what was useful, late, and useless.
 */
public final class PrefetchRules {
    public static final int NONE = -1;

    private static final int MISS = 0;
    private static final int HIT = 1;
    private static final int LATE = 2;

    private static final int RULES = 5;
    private static final int GREATEST_DEGREE = 4;
    private static final int GREATEST_LATENCY = 32;
    private static final int GREATEST_STORE = 64;
    private static final int GREATEST_PASS = 100;

    private final int latency;
    private final Store store;
    private final Queue queue;
    private final Rule rule;

    private int cycles;
    private int accesses;
    private int hits;
    private int late;
    private int misses;
    private int useful;
    private int useless;
    private int filtered;
    private int dropped;
    private int fetches;

    public PrefetchRules(int rule, int degree, int latency, int lines) {
        this.latency = oneTo(GREATEST_LATENCY, latency);
        this.store = new Store(oneTo(GREATEST_STORE, lines));
        this.queue = new Queue();
        this.rule = ruleOf(Math.floorMod(rule, RULES), oneTo(GREATEST_DEGREE, degree));
    }

    public int access(int place, int line) {
        accesses++;
        nextCycle();
        int answer = ask(line);
        rule.hear(place, line);
        int said = rule.saidCount();
        for (int k = 0; k < said; k++) {
            fetch(rule.saidLine(k));
        }
        return answer;
    }

    public int pass(int n) throws IllegalArgumentException {
        if (n < 1 || n > GREATEST_PASS) {
            throw new IllegalArgumentException("the cycles are none of 1 to 100");
        }
        int came = 0;
        for (int i = 0; i < n; i++) {
            came += nextCycle();
        }
        return came;
    }

    public int finish() {
        int ended = queue.size() + store.markCount();
        queue.clear();
        store.clearMarks();
        useless += ended;
        return ended;
    }

    public int state(int line) {
        int k = store.find(line);
        if (k != NONE) {
            return store.isMarked(k) ? 2 : 1;
        }
        return queue.find(line) != NONE ? 3 : 0;
    }

    public int stored(int k) throws IndexOutOfBoundsException {
        if (k < 0 || k >= store.size()) {
            throw new IndexOutOfBoundsException("the store has no such line");
        }
        return store.lineAt(k);
    }

    public int queued(int k, int what) throws IndexOutOfBoundsException {
        if (k < 0 || k >= queue.size()) {
            throw new IndexOutOfBoundsException("the queue has no such fetch");
        }
        if (what != 0 && what != 1) {
            throw new IndexOutOfBoundsException("a fetch has no such number");
        }
        return what == 0 ? queue.lineAt(k) : queue.cycleAt(k) - cycles;
    }

    public int known(int of) {
        return rule.knowledge(of);
    }

    public int trust(int of) {
        return rule.confidence(of);
    }

    public int count(int what) {
        switch (what) {
            case 0: return accesses;
            case 1: return hits;
            case 2: return late;
            case 3: return misses;
            case 4: return useful;
            case 5: return useless;
            case 6: return filtered;
            case 7: return dropped;
            case 8: return fetches;
            case 9: return cycles;
            case 10: return store.size();
            case 11: return queue.size();
            case 12: return store.markCount();
            case 13: return rule.roundCount();
            default: return NONE;
        }
    }

    private static int oneTo(int greatest, int given) {
        // The moduli are powers of 2, so given - 1 may wrap around without changing the rest.
        return 1 + Math.floorMod(given - 1, greatest);
    }

    private static int indexOf(int line, int[] lines, int size) {
        for (int k = 0; k < size && k < lines.length; k++) {
            if (lines[k] == line) {
                return k;
            }
        }
        return NONE;
    }

    private static Rule ruleOf(int kind, int degree) {
        switch (kind) {
            case 1: return new Strides(degree);
            case 2: return new Streams(degree);
            case 3: return new Offsets(degree);
            case 4: return new Pairs(degree);
            default: return new Next(degree);
        }
    }

    private int nextCycle() {
        cycles++;
        int came = 0;
        for (int k = 0; k < Queue.GREATEST && queue.firstIsDue(cycles); k++) {
            come(queue.lineAt(0), true);
            queue.remove(0);
            came++;
        }
        return came;
    }

    private void come(int line, boolean mark) {
        if (store.isFull() && store.dropLast()) {
            useless++;
        }
        store.putFirst(line, mark);
    }

    private int ask(int line) {
        int k = store.find(line);
        if (k != NONE) {
            hit(k);
            return HIT;
        }
        int q = queue.find(line);
        if (q != NONE) {
            late++;
            queue.remove(q);
            come(line, false);
            return LATE;
        }
        misses++;
        come(line, false);
        return MISS;
    }

    private void hit(int k) {
        hits++;
        if (store.isMarked(k)) {
            useful++;
        }
        store.use(k);
    }

    private void fetch(int line) {
        if (store.find(line) != NONE || queue.find(line) != NONE) {
            filtered++;
        } else if (queue.isFull()) {
            dropped++;
        } else {
            queue.add(line, cycles + latency);
            fetches++;
        }
    }

    /** The lines by their last use, the one used last first. */
    private static final class Store {
        private final int[] lines;
        private final boolean[] marks;
        private int size;

        Store(int greatest) {
            int room = Math.max(1, greatest);
            lines = new int[room];
            marks = new boolean[room];
        }

        int size() {
            return size;
        }

        boolean isFull() {
            return size >= lines.length;
        }

        int lineAt(int k) {
            return has(k) ? lines[k] : NONE;
        }

        boolean isMarked(int k) {
            return has(k) && marks[k];
        }

        int find(int line) {
            return indexOf(line, lines, size);
        }

        int markCount() {
            int n = 0;
            for (int k = 0; k < size && k < marks.length; k++) {
                if (marks[k]) {
                    n++;
                }
            }
            return n;
        }

        void clearMarks() {
            for (int k = 0; k < size && k < marks.length; k++) {
                marks[k] = false;
            }
        }

        /** Whether the line that went had its mark. */
        boolean dropLast() {
            int last = size - 1;
            if (!has(last)) {
                return false;
            }
            size = last;
            return marks[last];
        }

        void putFirst(int line, boolean mark) {
            if (size < lines.length) {
                size++;
                moveInFront(size - 1, line, mark);
            }
        }

        void use(int k) {
            if (has(k)) {
                moveInFront(k, lines[k], false);
            }
        }

        private boolean has(int k) {
            return k >= 0 && k < size && k < lines.length;
        }

        private void moveInFront(int k, int line, boolean mark) {
            for (int i = Math.min(k, lines.length - 1); i > 0; i--) {
                lines[i] = lines[i - 1];
                marks[i] = marks[i - 1];
            }
            lines[0] = line;
            marks[0] = mark;
        }
    }

    /** The fetches on their way, in the order in which they were said. */
    private static final class Queue {
        static final int GREATEST = 8;

        private final int[] lines = new int[GREATEST];
        private final int[] cycles = new int[GREATEST];
        private int size;

        int size() {
            return size;
        }

        boolean isFull() {
            return size >= GREATEST;
        }

        int lineAt(int k) {
            return has(k) ? lines[k] : NONE;
        }

        int cycleAt(int k) {
            return has(k) ? cycles[k] : NONE;
        }

        // All fetches take equally long, so none is due before the first one is.
        boolean firstIsDue(int cycle) {
            return size > 0 && cycles[0] <= cycle;
        }

        int find(int line) {
            return indexOf(line, lines, size);
        }

        void add(int line, int cycle) {
            if (size >= 0 && size < GREATEST) {
                lines[size] = line;
                cycles[size] = cycle;
                size++;
            }
        }

        void remove(int k) {
            if (!has(k)) {
                return;
            }
            size--;
            for (int i = k; i < size && i + 1 < GREATEST; i++) {
                lines[i] = lines[i + 1];
                cycles[i] = cycles[i + 1];
            }
        }

        void clear() {
            size = 0;
        }

        private boolean has(int k) {
            return k >= 0 && k < size && k < GREATEST;
        }
    }

    /** What is common to the rules: the degree, and the lines said at the last access. */
    private abstract static class Rule {
        private final int degree;
        private final int[] said = new int[GREATEST_DEGREE];
        private int saidCount;

        Rule(int degree) {
            this.degree = degree;
        }

        /** Learns of an access and says the lines that follow from it. */
        abstract void learn(int place, int line);

        /** The answer to known. */
        abstract int knowledge(int of);

        /** The answer to trust. */
        abstract int confidence(int of);

        int roundCount() {
            return 0;
        }

        final void hear(int place, int line) {
            saidCount = 0;
            learn(place, line);
        }

        final int degree() {
            return degree;
        }

        final int saidCount() {
            return saidCount;
        }

        final int saidLine(int k) {
            return k >= 0 && k < saidCount && k < said.length ? said[k] : NONE;
        }

        final void say(int line) {
            if (saidCount >= 0 && saidCount < said.length) {
                said[saidCount] = line;
                saidCount++;
            }
        }

        final void sayInSteps(int line, int step) {
            for (int k = 1; k <= degree; k++) {
                say(line + k * step);
            }
        }
    }

    /** Rule 0. */
    private static final class Next extends Rule {
        Next(int degree) {
            super(degree);
        }

        void learn(int place, int line) {
            sayInSteps(line, 1);
        }

        int knowledge(int of) {
            return 0;
        }

        int confidence(int of) {
            return 0;
        }
    }

    /** Rule 1. */
    private static final class Strides extends Rule {
        private static final int ROWS = 16;
        private static final int GREATEST_TRUST = 3;
        private static final int ENOUGH_TRUST = 2;

        private final boolean[] taken = new boolean[ROWS];
        private final int[] places = new int[ROWS];
        private final int[] lines = new int[ROWS];
        private final int[] strides = new int[ROWS];
        private final int[] trusts = new int[ROWS];

        Strides(int degree) {
            super(degree);
        }

        void learn(int place, int line) {
            int row = rowOf(place);
            if (!isOwn(row, place)) {
                begin(row, place, line);
                return;
            }
            compare(row, line - lines[row]);
            lines[row] = line;
            if (trusts[row] >= ENOUGH_TRUST && strides[row] != 0) {
                sayInSteps(line, strides[row]);
            }
        }

        int knowledge(int of) {
            int row = rowOf(of);
            return isOwn(row, of) ? strides[row] : 0;
        }

        int confidence(int of) {
            int row = rowOf(of);
            return isOwn(row, of) ? trusts[row] : 0;
        }

        private static int rowOf(int place) {
            return place & (ROWS - 1);
        }

        private boolean isOwn(int row, int place) {
            return taken[row] && places[row] == place;
        }

        private void begin(int row, int place, int line) {
            taken[row] = true;
            places[row] = place;
            lines[row] = line;
            strides[row] = 0;
            trusts[row] = 0;
        }

        private void compare(int row, int step) {
            if (step == strides[row]) {
                trusts[row] = Math.min(GREATEST_TRUST, trusts[row] + 1);
            } else if (trusts[row] > 0) {
                trusts[row]--;
            } else {
                strides[row] = step;
            }
        }
    }

    /** Rule 2; the streams stand by their last use, the one used last first. */
    private static final class Streams extends Rule {
        private static final int GREATEST = 8;
        private static final int REACH = 2;

        private final int[] lines = new int[GREATEST];
        private final int[] ways = new int[GREATEST];
        private int size;

        Streams(int degree) {
            super(degree);
        }

        void learn(int place, int line) {
            for (int k = 0; k < size && k < GREATEST; k++) {
                int way = wayTo(line - lines[k]);
                if (way != 0 && ways[k] != -way) {
                    moveInFront(k, line, way);
                    sayInSteps(line, way);
                    return;
                }
            }
            begin(line);
        }

        int knowledge(int of) {
            return size;
        }

        int confidence(int of) {
            return of >= 0 && of < size && of < GREATEST ? ways[of] : 0;
        }

        /** 0 for a step that no stream takes. */
        private static int wayTo(int step) {
            if (step >= 1 && step <= REACH) {
                return 1;
            }
            return step <= -1 && step >= -REACH ? -1 : 0;
        }

        private void begin(int line) {
            if (size < GREATEST) {
                size++;
            }
            moveInFront(size - 1, line, 0);
        }

        private void moveInFront(int k, int line, int way) {
            for (int i = Math.min(k, GREATEST - 1); i > 0; i--) {
                lines[i] = lines[i - 1];
                ways[i] = ways[i - 1];
            }
            lines[0] = line;
            ways[0] = way;
        }
    }

    /** Rule 3. */
    private static final class Offsets extends Rule {
        private static final int[] CANDIDATES = {1, 2, 3, 4, 5, 6, 8, 9, 10, 12, 15, 16};
        private static final int CANDIDATE_COUNT = 12;
        private static final int ROUND_SCORE = 15;
        private static final int ROUND_TRIES = 20 * CANDIDATE_COUNT;
        private static final int LEAST_SCORE = 4;
        private static final int RECENT = 32;

        private final int[] recent = new int[RECENT];
        private int asked;
        private final int[] scores = new int[CANDIDATE_COUNT];
        private int tries;
        private int offset = 1;
        private int rounds;

        Offsets(int degree) {
            super(degree);
        }

        void learn(int place, int line) {
            tryCandidate(line);
            if (offset != 0) {
                sayInSteps(line, offset);
            }
            remember(line);
        }

        int knowledge(int of) {
            return offset;
        }

        int confidence(int of) {
            return of >= 0 && of < CANDIDATE_COUNT ? scores[of] : 0;
        }

        int roundCount() {
            return rounds;
        }

        private void tryCandidate(int line) {
            int turn = Math.floorMod(tries, CANDIDATE_COUNT);
            if (isRecent(line - CANDIDATES[turn])) {
                scores[turn]++;
            }
            tries++;
            if (scores[turn] >= ROUND_SCORE || tries >= ROUND_TRIES) {
                endRound();
            }
        }

        private void endRound() {
            int best = 0;
            for (int k = 1; k < CANDIDATE_COUNT; k++) {
                if (scores[k] > scores[best]) {
                    best = k;
                }
            }
            offset = scores[best] >= LEAST_SCORE ? CANDIDATES[best] : 0;
            for (int k = 0; k < CANDIDATE_COUNT; k++) {
                scores[k] = 0;
            }
            tries = 0;
            rounds++;
        }

        private boolean isRecent(int line) {
            return indexOf(line, recent, Math.min(RECENT, asked)) != NONE;
        }

        private void remember(int line) {
            // Round and round: the place behind the newest line is the oldest one's.
            recent[Math.floorMod(asked, RECENT)] = line;
            asked++;
        }
    }

    /** Rule 4. */
    private static final class Pairs extends Rule {
        private static final int ROWS = 64;

        private final boolean[] taken = new boolean[ROWS];
        private final int[] owners = new int[ROWS];
        // How many lines came behind: any int is a line, so none of them can stand for nothing.
        private final int[] behind = new int[ROWS];
        private final int[] newer = new int[ROWS];
        private final int[] older = new int[ROWS];
        private boolean begun;
        private int before;

        Pairs(int degree) {
            super(degree);
        }

        void learn(int place, int line) {
            if (begun) {
                follow(before, line);
            }
            begun = true;
            before = line;
            int lines = behindCount(line);
            if (lines > 0) {
                say(newer[rowOf(line)]);
            }
            if (lines > 1 && degree() > 1) {
                say(older[rowOf(line)]);
            }
        }

        int knowledge(int of) {
            return behindCount(of) > 0 ? newer[rowOf(of)] : NONE;
        }

        int confidence(int of) {
            return behindCount(of) > 1 ? older[rowOf(of)] : NONE;
        }

        private static int rowOf(int line) {
            return line & (ROWS - 1);
        }

        private boolean isOwn(int row, int line) {
            return taken[row] && owners[row] == line;
        }

        private int behindCount(int line) {
            int row = rowOf(line);
            return isOwn(row, line) ? behind[row] : 0;
        }

        private void follow(int first, int line) {
            int row = rowOf(first);
            if (!isOwn(row, first)) {
                taken[row] = true;
                owners[row] = first;
                behind[row] = 0;
            }
            if (behind[row] > 0 && newer[row] == line) {
                return;
            }
            older[row] = newer[row];
            newer[row] = line;
            behind[row] = Math.min(2, behind[row] + 1);
        }
    }
}
