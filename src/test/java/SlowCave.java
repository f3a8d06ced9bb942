import java.util.ArrayDeque;
import java.util.ArrayList;
import java.util.Arrays;
import java.util.HashMap;
import java.util.List;
import java.util.Map;
import java.util.regex.Matcher;
import java.util.regex.Pattern;

/**
 * The document read a second time, with no regard to speed: a bucket is an entry of a list, and
 * what can be reached is found by trying. ModelTests compares CaveDraw with it.
 */
final class SlowCave {
    static final int NONE = -9;
    /** Of how many draws all are tried, to find what is feasible. */
    private static final long MOST_TRIED = 4000;

    private static final class State {
        final List<List<int[]>> columns = new ArrayList<>();
        int[] drawn;
        boolean[] hung;
        int bound;
        int buckets;
        int grades;

        State(int points, int bound) {
            for (int p = 0; p < points; p++) {
                columns.add(new ArrayList<>());
            }
            drawn = new int[points];
            hung = new boolean[points];
            this.bound = bound;
        }

        State copy() {
            State other = new State(drawn.length, bound);
            for (int p = 0; p < drawn.length; p++) {
                for (int[] slice : columns.get(p)) {
                    other.columns.get(p).add(slice.clone());
                }
            }
            other.drawn = drawn.clone();
            other.hung = hung.clone();
            other.buckets = buckets;
            other.grades = grades;
            return other;
        }

        int left(int p) {
            int sum = 0;
            for (int[] slice : columns.get(p)) {
                sum += slice[0];
            }
            return sum;
        }

        int take(int p) {
            int[] lowest = columns.get(p).get(0);
            lowest[0]--;
            if (lowest[0] == 0) {
                columns.get(p).remove(0);
            }
            drawn[p]++;
            buckets++;
            grades += lowest[1];
            return lowest[1];
        }

        /** The grades of the column, a bucket each. */
        List<Integer> list(int p) {
            List<Integer> list = new ArrayList<>();
            for (int[] slice : columns.get(p)) {
                for (int i = 0; i < slice[0]; i++) {
                    list.add(slice[1]);
                }
            }
            return list;
        }
    }

    private int rows = 2;
    private int columns = 2;
    private State now = new State(4, 2);
    private String text = "";
    private final ArrayDeque<State> remembered = new ArrayDeque<>();
    private final State[] slots = new State[2];

    private int points() {
        return rows * columns;
    }

    private boolean near(int p, int q) {
        int rowSteps = Math.abs(p / columns - q / columns);
        int columnSteps = Math.abs(p % columns - q % columns);
        return rowSteps + columnSteps == 1;
    }

    private void point(int p) {
        if (p < 0 || p >= points()) {
            throw new IndexOutOfBoundsException();
        }
    }

    private void range(long value, long low, long high) {
        if (value < low || value > high) {
            throw new IllegalArgumentException();
        }
    }

    private void possible(boolean isPossible) {
        if (!isPossible) {
            throw new IllegalStateException();
        }
    }

    private void remember() {
        remembered.addLast(now.copy());
        if (remembered.size() > 14) {
            remembered.removeFirst();
        }
    }

    int append(int c) {
        range(c, 0, 255);
        possible(text.length() < 120);
        text += (char) c;
        return text.length();
    }

    int clearText() {
        int length = text.length();
        text = "";
        return length;
    }

    private static final List<Pattern> GRAMMAR = new ArrayList<>();

    static {
        for (int r = 1; r <= 4; r++) {
            for (int c = 1; c <= 4; c++) {
                String column = "([1-9][0-9]){0,6};";
                GRAMMAR.add(Pattern.compile("D" + r + c + "[1-9](" + column + "){" + r * c + "}"));
            }
        }
    }

    int errorPosition() {
        for (int n = 1; n <= text.length(); n++) {
            if (!canBegin(text.substring(0, n))) {
                return n - 1;
            }
        }
        for (Pattern whole : GRAMMAR) {
            if (whole.matcher(text).matches()) {
                return NONE;
            }
        }
        return text.length();
    }

    private boolean canBegin(String start) {
        for (Pattern whole : GRAMMAR) {
            Matcher matcher = whole.matcher(start);
            if (matcher.matches() || matcher.hitEnd()) {
                return true;
            }
        }
        return false;
    }

    int load() {
        possible(errorPosition() == NONE);
        rows = text.charAt(1) - '0';
        columns = text.charAt(2) - '0';
        now = new State(points(), text.charAt(3) - '0');
        int p = 0;
        for (int i = 4; i < text.length(); i++) {
            if (text.charAt(i) == ';') {
                p++;
            } else {
                now.columns.get(p).add(new int[] {text.charAt(i) - '0', text.charAt(i + 1) - '0'});
                i++;
            }
        }
        remembered.clear();
        Arrays.fill(slots, null);
        return points();
    }

    int pointCount() {
        return points();
    }

    int bound() {
        return now.bound;
    }

    int drawn(int p) {
        point(p);
        return now.drawn[p];
    }

    int remaining(int p) {
        point(p);
        return now.left(p);
    }

    int sliceCount(int p) {
        point(p);
        return now.columns.get(p).size();
    }

    int gradeAhead(int p, int i) {
        point(p);
        range(i, 0, 99);
        List<Integer> list = now.list(p);
        return i < list.size() ? list.get(i) : NONE;
    }

    boolean isHung(int p) {
        point(p);
        return now.hung[p];
    }

    int totalBuckets() {
        return now.buckets;
    }

    int totalGrade() {
        return now.grades;
    }

    private boolean ready(State s, int p) {
        return !s.hung[p] && !s.columns.get(p).isEmpty() && blockSet(s, p) == 0;
    }

    private int blockSet(State s, int p) {
        int set = 0;
        for (int q = 0; q < points(); q++) {
            if (near(p, q) && s.drawn[p] + 1 - s.drawn[q] > s.bound) {
                set += 1 << q;
            }
        }
        return set;
    }

    private int slackIn(State s, int p) {
        State trial = s.copy();
        int n = 0;
        while (ready(trial, p)) {
            trial.take(p);
            n++;
        }
        return n;
    }

    private int next(State s) {
        int best = NONE;
        for (int p = 0; p < points(); p++) {
            if (ready(s, p) && (best == NONE || rank(s, p) > rank(s, best))) {
                best = p;
            }
        }
        return best;
    }

    private int rank(State s, int p) {
        return slackIn(s, p) * 10 + s.columns.get(p).get(0)[1];
    }

    private List<Integer> byOrder(State s, int n) {
        List<Integer> from = new ArrayList<>();
        while (from.size() < n && next(s) != NONE) {
            from.add(next(s));
            s.take(next(s));
        }
        return from;
    }

    int draw(int p) {
        point(p);
        possible(ready(now, p));
        remember();
        return now.take(p);
    }

    int drawByOrder(int n) {
        range(n, 1, 99);
        remember();
        return byOrder(now, n).size();
    }

    private int hungNow() {
        int n = 0;
        for (boolean h : now.hung) {
            n += h ? 1 : 0;
        }
        return n;
    }

    int hang(int p) {
        point(p);
        possible(!now.hung[p]);
        remember();
        now.hung[p] = true;
        return hungNow();
    }

    int release(int p) {
        point(p);
        possible(now.hung[p]);
        remember();
        now.hung[p] = false;
        return hungNow();
    }

    int addSlice(int p, int buckets, int grade) {
        point(p);
        range(buckets, 1, 9);
        range(grade, 0, 9);
        possible(now.columns.get(p).size() < 6);
        remember();
        now.columns.get(p).add(new int[] {buckets, grade});
        return now.columns.get(p).size();
    }

    int setBound(int b) {
        range(b, 1, 9);
        for (int p = 0; p < points(); p++) {
            for (int q = 0; q < points(); q++) {
                possible(!near(p, q) || now.drawn[p] - now.drawn[q] <= b);
            }
        }
        remember();
        int previous = now.bound;
        now.bound = b;
        return previous;
    }

    int undo() {
        possible(!remembered.isEmpty());
        now = remembered.removeLast();
        return remembered.size();
    }

    boolean isReady(int p) {
        point(p);
        return ready(now, p);
    }

    int blockers(int p) {
        point(p);
        return blockSet(now, p);
    }

    int slack(int p) {
        point(p);
        return slackIn(now, p);
    }

    int nextByOrder() {
        return next(now);
    }

    int orderAhead(int i) {
        range(i, 0, 99);
        List<Integer> from = byOrder(now.copy(), i + 1);
        return i < from.size() ? from.get(i) : NONE;
    }

    int bucketsToWaste(int p, int g) {
        point(p);
        range(g, 1, 9);
        List<Integer> list = now.list(p);
        for (int i = 0; i < list.size(); i++) {
            if (list.get(i) < g) {
                return i;
            }
        }
        return NONE;
    }

    /** How many different draws there are if no neighbour hinders another. */
    private long drawCount() {
        long product = 1;
        for (int p = 0; p < points(); p++) {
            product *= 1 + now.left(p);
        }
        return product;
    }

    /** The fewest buckets for each k, by trying all draws, the short ones first. */
    private Map<Integer, Integer> fewest(int p) {
        Map<Integer, Integer> fewest = new HashMap<>();
        Map<String, Integer> seen = new HashMap<>();
        ArrayDeque<State> open = new ArrayDeque<>();
        open.add(now);
        seen.put(Arrays.toString(now.drawn), 0);
        while (!open.isEmpty()) {
            State s = open.removeFirst();
            fewest.putIfAbsent(s.drawn[p] - now.drawn[p], s.buckets - now.buckets);
            for (int q = 0; q < points(); q++) {
                if (ready(s, q)) {
                    State after = s.copy();
                    after.take(q);
                    if (seen.putIfAbsent(Arrays.toString(after.drawn), 0) == null) {
                        open.addLast(after);
                    }
                }
            }
        }
        return fewest;
    }

    /** Draws a bucket from p and before it only what must be drawn before it; false if it can't. */
    private boolean force(State s, int p) {
        if (s.hung[p] || s.columns.get(p).isEmpty()) {
            return false;
        }
        while (blockSet(s, p) != 0) {
            if (!force(s, Integer.numberOfTrailingZeros(blockSet(s, p)))) {
                return false;
            }
        }
        s.take(p);
        return true;
    }

    private int forced(int p, int k) {
        State s = now.copy();
        for (int i = 0; i < k; i++) {
            if (!force(s, p)) {
                return NONE;
            }
        }
        return s.buckets - now.buckets;
    }

    int bucketsFor(int p, int k) {
        point(p);
        range(k, 1, 54);
        return drawCount() > MOST_TRIED ? forced(p, k) : fewest(p).getOrDefault(k, NONE);
    }

    int mostFrom(int p) {
        point(p);
        int most = 0;
        if (drawCount() > MOST_TRIED) {
            while (forced(p, most + 1) != NONE) {
                most++;
            }
            return most;
        }
        for (int k : fewest(p).keySet()) {
            most = Math.max(most, k);
        }
        return most;
    }

    int bestSequence(int n, int i) {
        range(n, 1, 4);
        range(i, 0, n);
        int[] best = new int[n + 1];
        Arrays.fill(best, NONE);
        tryAll(now, n, new int[n + 1], 0, best);
        return best[i];
    }

    private void tryAll(State s, int n, int[] trial, int step, int[] best) {
        if (step == n) {
            if (trial[n] > best[n]) {
                System.arraycopy(trial, 0, best, 0, n + 1);
            }
            return;
        }
        for (int p = 0; p < points(); p++) {
            if (ready(s, p)) {
                State after = s.copy();
                int grade = after.take(p);
                trial[step] = p;
                trial[n] += grade;
                tryAll(after, n, trial, step + 1, best);
                trial[n] -= grade;
            }
        }
    }

    int origins(int m, int grades) {
        range(m, 1, 9);
        range(grades, 0, Integer.MAX_VALUE);
        StringBuilder wanted = new StringBuilder(String.valueOf(grades));
        range(wanted.length(), 1, m);
        while (wanted.length() < m) {
            wanted.insert(0, '0');
        }
        int set = 0;
        for (int p = 0; p < points(); p++) {
            StringBuilder column = new StringBuilder();
            for (int grade : now.list(p)) {
                column.append(grade);
            }
            if (column.indexOf(wanted.toString()) == 0) {
                set += 1 << p;
            }
        }
        return set;
    }

    int runScript(int n, long script) {
        range(n, 1, 4);
        range(script, 0, Long.MAX_VALUE);
        StringBuilder digits = new StringBuilder(String.valueOf(script));
        range(digits.length(), 1, 4 * n);
        while (digits.length() < 4 * n) {
            digits.insert(0, '0');
        }
        State s = now.copy();
        for (int i = 0; i < n; i++) {
            if (!command(s, digits.substring(4 * i, 4 * i + 4))) {
                return i;
            }
        }
        return NONE;
    }

    private boolean command(State s, String d) {
        int p = Integer.parseInt(d.substring(1, 3));
        int n = d.charAt(3) - '0';
        boolean exists = p < points();
        if (d.matches("1..[1-9]") && exists) {
            for (int i = 0; i < n; i++) {
                if (!ready(s, p)) {
                    return false;
                }
                s.take(p);
            }
            return true;
        }
        if (d.matches("[23]..0") && exists) {
            boolean hangs = d.charAt(0) == '2';
            if (s.hung[p] == hangs) {
                return false;
            }
            s.hung[p] = hangs;
            return true;
        }
        if (d.matches("4...") && exists) {
            return slackIn(s, p) == n;
        }
        if (d.matches("5...") && exists) {
            return s.left(p) > 0 && s.list(p).get(0) >= n;
        }
        if (d.matches("60..") && !d.equals("6000")) {
            int wanted = Integer.parseInt(d.substring(2));
            return byOrder(s, wanted).size() == wanted;
        }
        return false;
    }

    int simulate(long seed, int m) {
        range(m, 1, 100);
        State s = now.copy();
        long x = seed;
        for (int i = 0; i < m; i++) {
            x = x * 6364136223846793005L + 1442695040888963407L;
            int r = (int) (x >>> 33);
            if (r % 4 == 0) {
                int p = r / 4 % points();
                s.hung[p] = !s.hung[p];
            }
            byOrder(s, 1);
        }
        return s.grades - now.grades;
    }

    int save(int slot) {
        if (slot != 0 && slot != 1) {
            throw new IndexOutOfBoundsException();
        }
        slots[slot] = now.copy();
        return now.buckets;
    }

    int restore(int slot) {
        if (slot != 0 && slot != 1) {
            throw new IndexOutOfBoundsException();
        }
        possible(slots[slot] != null);
        now = slots[slot].copy();
        remembered.clear();
        return now.buckets;
    }
}
