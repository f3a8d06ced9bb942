import java.util.Arrays;

/** Draw control for block caving, as ../shared/DOC.md promises it; README.md says how to use it. */
public final class CaveDraw {
    /** There is no such result. */
    public static final int NONE = -9;

    private static final int MOST_POINTS = 16;
    private static final int SIDES = 4;
    private static final int MOST_SLICES = 6;
    private static final int MOST_BUCKETS = 9;
    private static final int MOST_IN_COLUMN = MOST_SLICES * MOST_BUCKETS;
    private static final int MOST_GRADE = 9;
    private static final int MOST_BOUND = 9;
    private static final int FIRST_BOUND = 2;
    private static final int MOST_SIGNS = 120;
    private static final int MOST_REMEMBERED = 14;
    private static final int SLOTS = 2;
    private static final int MOST_BY_ORDER = 99;
    private static final int MOST_ORIGINS = 9;
    private static final int MOST_SEQUENCE = 4;
    private static final int MOST_COMMANDS = 4;
    private static final int MOST_ROUNDS = 100;

    private final Grid grid = new Grid();
    private final Cave cave = new Cave();
    private final Cave copy = new Cave();
    private final CaveText text = new CaveText();
    private final History history = new History();
    private final Slots slots = new Slots();
    private final SequenceSearch search = new SequenceSearch();
    private final Groups pattern = new Groups();
    private final Groups commands = new Groups();

    public CaveDraw() {
        grid.shape(2, 2);
        cave.clear(FIRST_BOUND);
    }

    // ---- text

    public int append(int c) throws IllegalArgumentException, IllegalStateException {
        requireRange(c, 0, 255);
        if (text.isFull()) {
            throw new IllegalStateException("the text is full");
        }
        return text.put(c);
    }

    public int clearText() {
        return text.clear();
    }

    public int errorPosition() {
        return text.findError();
    }

    public int load() throws IllegalStateException {
        if (text.findError() != NONE) {
            throw new IllegalStateException("the text is not a complete cave text");
        }
        text.build(grid, cave);
        history.forget();
        slots.forget();
        return grid.size();
    }

    // ---- the cave

    public int pointCount() {
        return grid.size();
    }

    public int bound() {
        return cave.limit();
    }

    public int drawn(int p) throws IndexOutOfBoundsException {
        requirePoint(p);
        return cave.drawnFrom(p);
    }

    public int remaining(int p) throws IndexOutOfBoundsException {
        requirePoint(p);
        return cave.leftIn(p);
    }

    public int sliceCount(int p) throws IndexOutOfBoundsException {
        requirePoint(p);
        return cave.height(p);
    }

    public int gradeAhead(int p, int i)
            throws IndexOutOfBoundsException, IllegalArgumentException {
        requirePoint(p);
        requireRange(i, 0, 99);
        return cave.gradeOf(p, i);
    }

    public boolean isHung(int p) throws IndexOutOfBoundsException {
        requirePoint(p);
        return cave.hangs(p);
    }

    public int totalBuckets() {
        return cave.bucketSum();
    }

    public int totalGrade() {
        return cave.gradeSum();
    }

    // ---- actions

    public int draw(int p) throws IndexOutOfBoundsException, IllegalStateException {
        requirePoint(p);
        if (!cave.ready(grid, p)) {
            throw new IllegalStateException("the drawpoint is not ready");
        }
        history.remember(cave);
        return cave.take(p);
    }

    public int drawByOrder(int n) throws IllegalArgumentException {
        requireRange(n, 1, MOST_BY_ORDER);
        history.remember(cave);
        return cave.takeByOrder(grid, n);
    }

    public int hang(int p) throws IndexOutOfBoundsException, IllegalStateException {
        requirePoint(p);
        if (cave.hangs(p)) {
            throw new IllegalStateException("the drawpoint is hung");
        }
        history.remember(cave);
        cave.turnHung(p);
        return cave.hungCount();
    }

    public int release(int p) throws IndexOutOfBoundsException, IllegalStateException {
        requirePoint(p);
        if (!cave.hangs(p)) {
            throw new IllegalStateException("the drawpoint is not hung");
        }
        history.remember(cave);
        cave.turnHung(p);
        return cave.hungCount();
    }

    public int addSlice(int p, int buckets, int grade)
            throws IndexOutOfBoundsException, IllegalArgumentException, IllegalStateException {
        requirePoint(p);
        requireRange(buckets, 1, MOST_BUCKETS);
        requireRange(grade, 0, MOST_GRADE);
        if (cave.height(p) >= MOST_SLICES) {
            throw new IllegalStateException("the column has all its slices");
        }
        history.remember(cave);
        cave.pile(p, buckets, grade);
        return cave.height(p);
    }

    public int setBound(int b) throws IllegalArgumentException, IllegalStateException {
        requireRange(b, 1, MOST_BOUND);
        if (!cave.fits(grid, b)) {
            throw new IllegalStateException("neighbours differ by more than the bound");
        }
        history.remember(cave);
        int previous = cave.limit();
        cave.changeLimit(b);
        return previous;
    }

    public int undo() throws IllegalStateException {
        if (history.isEmpty()) {
            throw new IllegalStateException("no state is remembered");
        }
        return history.takeBack(cave);
    }

    // ---- questions

    public boolean isReady(int p) throws IndexOutOfBoundsException {
        requirePoint(p);
        return cave.ready(grid, p);
    }

    public int blockers(int p) throws IndexOutOfBoundsException {
        requirePoint(p);
        return cave.blockersOf(grid, p);
    }

    public int slack(int p) throws IndexOutOfBoundsException {
        requirePoint(p);
        return cave.slackOf(grid, p);
    }

    public int nextByOrder() {
        return cave.nextOf(grid);
    }

    public int orderAhead(int i) throws IllegalArgumentException {
        requireRange(i, 0, 99);
        copy.become(cave);
        copy.takeByOrder(grid, i);
        return copy.nextOf(grid);
    }

    public int bucketsToWaste(int p, int g)
            throws IndexOutOfBoundsException, IllegalArgumentException {
        requirePoint(p);
        requireRange(g, 1, MOST_GRADE);
        return cave.bucketsAboveWaste(p, g);
    }

    public int bucketsFor(int p, int k)
            throws IndexOutOfBoundsException, IllegalArgumentException {
        requirePoint(p);
        requireRange(k, 1, MOST_IN_COLUMN);
        return cave.fewestFor(grid, p, k);
    }

    public int mostFrom(int p) throws IndexOutOfBoundsException {
        requirePoint(p);
        return cave.mostFeasible(grid, p);
    }

    public int bestSequence(int n, int i) throws IllegalArgumentException {
        requireRange(n, 1, MOST_SEQUENCE);
        requireRange(i, 0, n);
        search.run(grid, cave, n);
        return i == n ? search.sum() : search.point(i);
    }

    public int origins(int m, int grades) throws IllegalArgumentException {
        requireRange(m, 1, MOST_ORIGINS);
        if (!pattern.split(grades, m, 10)) {
            throw new IllegalArgumentException("the grades are no number of m digits");
        }
        return cave.pointsThatBegin(grid, pattern);
    }

    // ---- scripts, random hang-ups

    public int runScript(int n, long script) throws IllegalArgumentException {
        requireRange(n, 1, MOST_COMMANDS);
        if (!commands.split(script, n, 10000)) {
            throw new IllegalArgumentException("the script is no number of n commands");
        }
        copy.become(cave);
        return Script.firstFailure(grid, copy, commands);
    }

    public int simulate(long seed, int m) throws IllegalArgumentException {
        requireRange(m, 1, MOST_ROUNDS);
        copy.become(cave);
        long x = seed;
        for (int round = 0; round < m; round++) {
            x = x * 6364136223846793005L + 1442695040888963407L;
            copy.playRound(grid, (int) (x >>> 33));
        }
        return copy.gradeSum() - cave.gradeSum();
    }

    // ---- save slots

    public int save(int slot) throws IndexOutOfBoundsException {
        requireSlot(slot);
        slots.store(slot, cave);
        return cave.bucketSum();
    }

    public int restore(int slot) throws IndexOutOfBoundsException, IllegalStateException {
        requireSlot(slot);
        if (!slots.isFilled(slot)) {
            throw new IllegalStateException("the slot is empty");
        }
        slots.fetch(slot, cave);
        history.forget();
        return cave.bucketSum();
    }

    // ---- what the methods of the face share

    private void requirePoint(int p) {
        if (!grid.has(p)) {
            throw new IndexOutOfBoundsException("there is no such drawpoint");
        }
    }

    private static void requireSlot(int slot) {
        if (slot < 0 || slot >= SLOTS) {
            throw new IndexOutOfBoundsException("there is no such slot");
        }
    }

    private static void requireRange(int value, int low, int high) {
        if (value < low || value > high) {
            throw new IllegalArgumentException("an argument is out of its range");
        }
    }

    /** The places of the drawpoints; it is no part of the state. */
    private static final class Grid {
        private final int[] rowOf = new int[MOST_POINTS];
        private final int[] columnOf = new int[MOST_POINTS];
        private final int[] neighbours = new int[MOST_POINTS * SIDES];
        private final int[] neighbourCount = new int[MOST_POINTS];
        private int size;

        void shape(int rows, int columns) {
            size = Math.min(rows * columns, MOST_POINTS);
            int row = 0;
            int column = 0;
            for (int p = 0; p < size; p++) {
                rowOf[p] = row;
                columnOf[p] = column;
                column++;
                if (column == columns) {
                    column = 0;
                    row++;
                }
            }
            for (int p = 0; p < size; p++) {
                findNeighbours(p);
            }
        }

        private void findNeighbours(int p) {
            int count = 0;
            for (int q = 0; q < size && count < SIDES; q++) {
                if (distance(p, q) == 1) {
                    neighbours[p * SIDES + count] = q;
                    count++;
                }
            }
            neighbourCount[p] = count;
        }

        int size() {
            return size;
        }

        boolean has(int p) {
            return p >= 0 && p < size;
        }

        /** The fewest steps from neighbour to neighbour that lead from p to q. */
        int distance(int p, int q) {
            return Math.abs(rowOf[p] - rowOf[q]) + Math.abs(columnOf[p] - columnOf[q]);
        }

        int degree(int p) {
            return neighbourCount[p];
        }

        /** The neighbour i of p, i from 0 to degree(p) - 1. */
        int neighbour(int p, int i) {
            return neighbours[p * SIDES + i];
        }

        /** How many buckets the neighbours let p draw, up to the most that a column can hold. */
        int room(int p, int[] drawn, int limit) {
            int room = MOST_IN_COLUMN;
            for (int i = 0; i < neighbourCount[p]; i++) {
                int q = neighbours[p * SIDES + i];
                room = Math.min(room, limit + drawn[q] - drawn[p]);
            }
            return room;
        }
    }

    /** The state: the columns, the drawn numbers, the bound, the hung drawpoints and the sums. */
    private static final class Cave {
        private final int[] buckets = new int[MOST_POINTS * MOST_SLICES];
        private final int[] grades = new int[MOST_POINTS * MOST_SLICES];
        private final int[] heights = new int[MOST_POINTS];
        private final int[] drawn = new int[MOST_POINTS];
        private int limit;
        private int hungSet;
        private int bucketSum;
        private int gradeSum;

        void clear(int newLimit) {
            Arrays.fill(heights, 0);
            Arrays.fill(drawn, 0);
            limit = newLimit;
            hungSet = 0;
            bucketSum = 0;
            gradeSum = 0;
        }

        void become(Cave other) {
            System.arraycopy(other.buckets, 0, buckets, 0, buckets.length);
            System.arraycopy(other.grades, 0, grades, 0, grades.length);
            System.arraycopy(other.heights, 0, heights, 0, heights.length);
            System.arraycopy(other.drawn, 0, drawn, 0, drawn.length);
            limit = other.limit;
            hungSet = other.hungSet;
            bucketSum = other.bucketSum;
            gradeSum = other.gradeSum;
        }

        int limit() {
            return limit;
        }

        void changeLimit(int newLimit) {
            limit = newLimit;
        }

        int bucketSum() {
            return bucketSum;
        }

        int gradeSum() {
            return gradeSum;
        }

        int drawnFrom(int p) {
            return drawn[p];
        }

        int height(int p) {
            return heights[p];
        }

        int leftIn(int p) {
            int left = 0;
            for (int s = 0; s < heights[p]; s++) {
                left += buckets[p * MOST_SLICES + s];
            }
            return left;
        }

        int gradeOf(int p, int i) {
            int passed = 0;
            for (int s = 0; s < heights[p]; s++) {
                passed += buckets[p * MOST_SLICES + s];
                if (i < passed) {
                    return grades[p * MOST_SLICES + s];
                }
            }
            return NONE;
        }

        int bucketsAboveWaste(int p, int g) {
            int passed = 0;
            for (int s = 0; s < heights[p]; s++) {
                if (grades[p * MOST_SLICES + s] < g) {
                    return passed;
                }
                passed += buckets[p * MOST_SLICES + s];
            }
            return NONE;
        }

        boolean hangs(int p) {
            return (hungSet & (1 << p)) != 0;
        }

        void turnHung(int p) {
            hungSet ^= 1 << p;
        }

        int hungCount() {
            return Integer.bitCount(hungSet);
        }

        void pile(int p, int count, int grade) {
            int s = heights[p];
            if (s < MOST_SLICES) {
                buckets[p * MOST_SLICES + s] = count;
                grades[p * MOST_SLICES + s] = grade;
                heights[p] = s + 1;
            }
        }

        /** Draws a bucket without asking whether p is ready; answers its grade. */
        int take(int p) {
            if (heights[p] == 0) {
                return NONE;
            }
            int lowest = p * MOST_SLICES;
            int grade = grades[lowest];
            buckets[lowest]--;
            if (buckets[lowest] == 0) {
                dropLowest(p);
            }
            drawn[p]++;
            bucketSum++;
            gradeSum += grade;
            return grade;
        }

        private void dropLowest(int p) {
            int lowest = p * MOST_SLICES;
            System.arraycopy(buckets, lowest + 1, buckets, lowest, MOST_SLICES - 1);
            System.arraycopy(grades, lowest + 1, grades, lowest, MOST_SLICES - 1);
            heights[p]--;
        }

        boolean ready(Grid grid, int p) {
            return slackOf(grid, p) > 0;
        }

        int slackOf(Grid grid, int p) {
            if (hangs(p)) {
                return 0;
            }
            return Math.max(0, Math.min(leftIn(p), grid.room(p, drawn, limit)));
        }

        int blockersOf(Grid grid, int p) {
            int set = 0;
            for (int i = 0; i < grid.degree(p); i++) {
                int q = grid.neighbour(p, i);
                if (drawn[p] + 1 - drawn[q] > limit) {
                    set |= 1 << q;
                }
            }
            return set;
        }

        boolean fits(Grid grid, int newLimit) {
            for (int p = 0; p < grid.size(); p++) {
                if (grid.room(p, drawn, newLimit) < 0) {
                    return false;
                }
            }
            return true;
        }

        /** The next drawpoint by order, or NONE. */
        int nextOf(Grid grid) {
            int next = NONE;
            int nextSlack = 0;
            int nextGrade = NONE;
            for (int p = 0; p < grid.size(); p++) {
                int slack = slackOf(grid, p);
                int grade = gradeOf(p, 0);
                // A tie of both leaves the earlier drawpoint: it has the smaller number.
                boolean wins = slack == nextSlack ? grade > nextGrade : slack > nextSlack;
                if (slack > 0 && wins) {
                    next = p;
                    nextSlack = slack;
                    nextGrade = grade;
                }
            }
            return next;
        }

        /** Draws up to n buckets by order; answers how many were drawn. */
        int takeByOrder(Grid grid, int n) {
            for (int i = 0; i < n; i++) {
                int p = nextOf(grid);
                if (p == NONE) {
                    return i;
                }
                take(p);
            }
            return n;
        }

        /**
         * The fewest buckets for a draw of k buckets from p, or NONE. A drawpoint d steps away must
         * come within d bounds of p's new drawn number, and may stay where it is if it is there.
         */
        int fewestFor(Grid grid, int p, int k) {
            int sum = 0;
            for (int q = 0; q < grid.size(); q++) {
                int need = drawn[p] + k - limit * grid.distance(p, q) - drawn[q];
                if (need > 0) {
                    if (hangs(q) || leftIn(q) < need) {
                        return NONE;
                    }
                    sum += need;
                }
            }
            return sum;
        }

        int mostFeasible(Grid grid, int p) {
            // What a draw needs only grows with k, so the first k that fails is the end.
            for (int k = 1; k <= MOST_IN_COLUMN; k++) {
                if (fewestFor(grid, p, k) == NONE) {
                    return k - 1;
                }
            }
            return MOST_IN_COLUMN;
        }

        int pointsThatBegin(Grid grid, Groups pattern) {
            int set = 0;
            for (int p = 0; p < grid.size(); p++) {
                if (begins(p, pattern)) {
                    set |= 1 << p;
                }
            }
            return set;
        }

        private boolean begins(int p, Groups pattern) {
            for (int i = 0; i < pattern.count(); i++) {
                if (gradeOf(p, i) != pattern.get(i)) {
                    return false;
                }
            }
            return true;
        }

        /** One round of a simulation with the random number r, 0 or greater. */
        void playRound(Grid grid, int r) {
            int points = grid.size();
            if (points > 0 && r % 4 == 0) {
                turnHung(r / 4 % points);
            }
            takeByOrder(grid, 1);
        }
    }

    /** The text buffer, and how a cave text is read. */
    private static final class CaveText {
        private static final int NO_SIGN = -1;
        private static final int HEAD = 4;

        private final char[] signs = new char[MOST_SIGNS];
        private int length;

        boolean isFull() {
            return length >= MOST_SIGNS;
        }

        int put(int c) {
            if (length < MOST_SIGNS) {
                signs[length] = (char) c;
                length++;
            }
            return length;
        }

        int clear() {
            int previous = length;
            length = 0;
            return previous;
        }

        /** NO_SIGN behind the end is allowed nowhere, so a short text errs at its length. */
        private int sign(int at) {
            return at >= 0 && at < length ? signs[at] : NO_SIGN;
        }

        private int digit(int at) {
            return sign(at) - '0';
        }

        private boolean isDigit(int at, int low, int high) {
            return digit(at) >= low && digit(at) <= high;
        }

        int findError() {
            int headError = findHeadError();
            if (headError != NONE) {
                return headError;
            }
            int points = digit(1) * digit(2);
            int at = HEAD;
            for (int p = 0; p < points; p++) {
                at = columnEnd(at);
                if (at < 0) {
                    return ~at;
                }
            }
            return at < length ? at : NONE;
        }

        private int findHeadError() {
            if (sign(0) != 'D') {
                return 0;
            }
            if (!isDigit(1, 1, 4)) {
                return 1;
            }
            if (!isDigit(2, 1, 4)) {
                return 2;
            }
            return isDigit(3, 1, MOST_BOUND) ? NONE : 3;
        }

        /** The place behind the semicolon of a column, or ~e (below 0) for an error at e. */
        private int columnEnd(int start) {
            int at = start;
            for (int s = 0; s < MOST_SLICES && sign(at) != ';'; s++) {
                if (!isDigit(at, 1, MOST_BUCKETS)) {
                    return ~at;
                }
                if (!isDigit(at + 1, 0, MOST_GRADE)) {
                    return ~(at + 1);
                }
                at += 2;
            }
            return sign(at) == ';' ? at + 1 : ~at;
        }

        /** Makes the cave that the text describes; the text must be free of errors. */
        void build(Grid grid, Cave cave) {
            grid.shape(digit(1), digit(2));
            cave.clear(digit(3));
            int at = HEAD;
            for (int p = 0; p < grid.size(); p++) {
                at = buildColumn(cave, p, at);
            }
        }

        private int buildColumn(Cave cave, int p, int start) {
            int at = start;
            for (int s = 0; s < MOST_SLICES && sign(at) != ';'; s++) {
                cave.pile(p, digit(at), digit(at + 1));
                at += 2;
            }
            return at + 1;
        }
    }

    /** The remembered states, in a ring of caves that are used again and again. */
    private static final class History {
        private final Cave[] states = new Cave[MOST_REMEMBERED];
        private int oldest;
        private int count;

        History() {
            for (int i = 0; i < MOST_REMEMBERED; i++) {
                states[i] = new Cave();
            }
        }

        void remember(Cave cave) {
            if (count == MOST_REMEMBERED) {
                oldest = (oldest + 1) % MOST_REMEMBERED;
                count--;
            }
            states[(oldest + count) % MOST_REMEMBERED].become(cave);
            count++;
        }

        boolean isEmpty() {
            return count == 0;
        }

        /** Gives the cave the last state back; answers how many states are left. */
        int takeBack(Cave cave) {
            if (count > 0) {
                count--;
                cave.become(states[(oldest + count) % MOST_REMEMBERED]);
            }
            return count;
        }

        void forget() {
            oldest = 0;
            count = 0;
        }
    }

    /** The save slots. */
    private static final class Slots {
        private final Cave[] states = new Cave[SLOTS];
        private final boolean[] filled = new boolean[SLOTS];

        Slots() {
            for (int i = 0; i < SLOTS; i++) {
                states[i] = new Cave();
            }
        }

        void store(int slot, Cave cave) {
            states[slot].become(cave);
            filled[slot] = true;
        }

        boolean isFilled(int slot) {
            return filled[slot];
        }

        void fetch(int slot, Cave cave) {
            cave.become(states[slot]);
        }

        void forget() {
            for (int i = 0; i < SLOTS; i++) {
                filled[i] = false;
            }
        }
    }

    /** A number that was cut into groups of digits, the highest group first. */
    private static final class Groups {
        private static final int MOST_GROUPS = 9;

        private final int[] values = new int[MOST_GROUPS];
        private int count;

        /** False if the number is negative or has more than n groups below base. */
        boolean split(long number, int n, int base) {
            if (number < 0 || n > MOST_GROUPS || base < 1) {
                return false;
            }
            long rest = number;
            for (int i = n - 1; i >= 0; i--) {
                values[i] = (int) (rest % base);
                rest /= base;
            }
            count = n;
            return rest == 0;
        }

        int count() {
            return count;
        }

        int get(int i) {
            return i >= 0 && i < count ? values[i] : NONE;
        }
    }

    /** The commands of a script. */
    private static final class Script {
        /** Runs the commands on the cave; the index of the first that fails, or NONE. */
        static int firstFailure(Grid grid, Cave cave, Groups commands) {
            for (int i = 0; i < commands.count(); i++) {
                if (!succeeds(grid, cave, commands.get(i))) {
                    return i;
                }
            }
            return NONE;
        }

        private static boolean succeeds(Grid grid, Cave cave, int command) {
            int kind = command / 1000;
            if (kind == 6) {
                int n = command % 1000;
                return n >= 1 && n <= MOST_BY_ORDER && cave.takeByOrder(grid, n) == n;
            }
            int p = command / 10 % 100;
            int last = command % 10;
            if (!grid.has(p)) {
                return false;
            }
            switch (kind) {
                case 1:
                    return drawsAll(grid, cave, p, last);
                case 2:
                    return last == 0 && turns(cave, p, false);
                case 3:
                    return last == 0 && turns(cave, p, true);
                case 4:
                    return cave.slackOf(grid, p) == last;
                case 5:
                    // An empty column has the grade NONE, which is below every digit.
                    return cave.gradeOf(p, 0) >= last;
                default:
                    return false;
            }
        }

        private static boolean drawsAll(Grid grid, Cave cave, int p, int n) {
            for (int i = 0; i < n; i++) {
                if (!cave.ready(grid, p)) {
                    return false;
                }
                cave.take(p);
            }
            return n > 0;
        }

        private static boolean turns(Cave cave, int p, boolean fromHung) {
            if (cave.hangs(p) != fromHung) {
                return false;
            }
            cave.turnHung(p);
            return true;
        }
    }

    /** The search for the best sequence, in rows that every search uses again. */
    private static final class SequenceSearch {
        private final int[] ahead = new int[MOST_POINTS * MOST_SEQUENCE];
        private final int[] drawn = new int[MOST_POINTS];
        private final int[] taken = new int[MOST_POINTS];
        private final int[] mostFromStep = new int[MOST_SEQUENCE];
        private final int[] trial = new int[MOST_SEQUENCE];
        private final int[] best = new int[MOST_SEQUENCE];
        private int length;
        private int limit;
        private int bestSum;

        void run(Grid grid, Cave cave, int n) {
            length = Math.min(n, MOST_SEQUENCE);
            limit = cave.limit();
            bestSum = NONE;
            Arrays.fill(best, NONE);
            for (int p = 0; p < grid.size(); p++) {
                lookAhead(cave, p);
            }
            boundSteps(grid);
            extend(grid, 0, 0);
        }

        /** The greatest sum of grades, or NONE. */
        int sum() {
            return bestSum;
        }

        /** The drawpoint of a step of the best sequence, or NONE. */
        int point(int step) {
            return step >= 0 && step < length ? best[step] : NONE;
        }

        private void lookAhead(Cave cave, int p) {
            drawn[p] = cave.drawnFrom(p);
            taken[p] = 0;
            for (int j = 0; j < MOST_SEQUENCE; j++) {
                ahead[p * MOST_SEQUENCE + j] = cave.hangs(p) ? NONE : cave.gradeOf(p, j);
            }
        }

        /** A bucket deeper than the step cannot come at it: that bounds what the steps can give. */
        private void boundSteps(Grid grid) {
            Arrays.fill(mostFromStep, 0);
            int most = 0;
            for (int step = 0; step < length; step++) {
                for (int p = 0; p < grid.size(); p++) {
                    most = Math.max(most, ahead[p * MOST_SEQUENCE + step]);
                }
                for (int from = 0; from <= step; from++) {
                    mostFromStep[from] += most;
                }
            }
        }

        private void extend(Grid grid, int step, int sum) {
            if (step >= length) {
                keepIfBetter(sum);
                return;
            }
            if (sum + mostFromStep[step] <= bestSum) {
                return;
            }
            for (int p = 0; p < grid.size(); p++) {
                extendFrom(grid, p, step, sum);
            }
        }

        private void extendFrom(Grid grid, int p, int step, int sum) {
            int grade = gradeNow(p);
            if (grade == NONE || grid.room(p, drawn, limit) <= 0) {
                return;
            }
            trial[step] = p;
            taken[p]++;
            drawn[p]++;
            extend(grid, step + 1, sum + grade);
            taken[p]--;
            drawn[p]--;
        }

        private int gradeNow(int p) {
            int j = taken[p];
            return j < MOST_SEQUENCE ? ahead[p * MOST_SEQUENCE + j] : NONE;
        }

        private void keepIfBetter(int sum) {
            // Sequences come in lexicographic order, so the first of equal ones stays.
            if (sum > bestSum) {
                bestSum = sum;
                System.arraycopy(trial, 0, best, 0, length);
            }
        }
    }
}
