/** Runs of calls, the same for CaveDraw and for SlowCave: each call must answer the same. */
public final class ModelTests {
    /** The document's limit for the calls on one object. */
    private static final int MOST_CALLS = 512;
    private static final int KINDS = 34;

    /** A number generator of our own, so that every run is the same on every machine. */
    private static final class Dice {
        private long x;

        Dice(long seed) {
            x = seed * 2862933555777941757L + 3037000493L;
        }

        int below(int n) {
            x = x * 6364136223846793005L + 1442695040888963407L;
            return (int) ((x >>> 33) % n);
        }

        int between(int low, int high) {
            return low + below(high - low + 1);
        }

        /** Mostly from low to high, now and then just outside or far away. */
        int about(int low, int high) {
            switch (below(24)) {
                case 0:
                    return low - 1;
                case 1:
                    return high + 1;
                case 2:
                    return below(2) == 0 ? Integer.MIN_VALUE : Integer.MAX_VALUE;
                default:
                    return between(low, high);
            }
        }
    }

    private interface Call {
        Object run();
    }

    private final Dice dice;
    private final int mostSlices;
    private final int mostBuckets;
    private final CaveDraw fast = new CaveDraw();
    private final SlowCave slow = new SlowCave();
    private int calls;

    private ModelTests(long seed, int mostSlices, int mostBuckets) {
        dice = new Dice(seed);
        this.mostSlices = mostSlices;
        this.mostBuckets = mostBuckets;
    }

    public static void main(String[] args) {
        TestKit kit = new TestKit();
        for (int i = 0; i < 60; i++) {
            int seed = i;
            kit.test("small caves, run " + i, () -> new ModelTests(seed, 2, 3).play(2, 2));
            kit.test("rows, run " + i, () -> new ModelTests(1000 + seed, 3, 4).play(1, 4));
            kit.test("columns, run " + i, () -> new ModelTests(2000 + seed, 3, 5).play(4, 1));
            kit.test("single points, run " + i, () -> new ModelTests(3000 + seed, 6, 9).play(1, 1));
            kit.test("middle caves, run " + i, () -> new ModelTests(4000 + seed, 1, 1).play(3, 3));
            kit.test("great caves, run " + i, () -> new ModelTests(5000 + seed, 6, 9).play(4, 4));
            kit.test("new caves, run " + i, () -> new ModelTests(6000 + seed, 6, 9).play(0, 0));
            kit.test("texts, run " + i, () -> new ModelTests(7000 + seed, 6, 9).readTexts());
        }
        kit.finish();
    }

    private void play(int rows, int columns) {
        if (rows > 0) {
            put(caveText(dice.between(1, rows), dice.between(1, columns)));
            same("load", fast::load, slow::load);
        }
        while (calls < MOST_CALLS) {
            step();
        }
    }

    private void readTexts() {
        while (calls < MOST_CALLS - 130) {
            put(spoiled(caveText(dice.between(1, 4), dice.between(1, 4))));
            same("errorPosition", fast::errorPosition, slow::errorPosition);
            same("load", fast::load, slow::load);
            step();
            same("clearText", fast::clearText, slow::clearText);
        }
    }

    private String caveText(int rows, int columns) {
        StringBuilder text = new StringBuilder("D");
        text.append(rows).append(columns).append(dice.between(1, dice.between(1, 9)));
        for (int p = 0; p < rows * columns; p++) {
            // The text must fit into the buffer with the semicolons that are still to come.
            int room = (120 - text.length() - (rows * columns - p)) / 2;
            int slices = Math.min(room, dice.below(mostSlices + 1));
            for (int s = 0; s < slices; s++) {
                text.append(dice.between(1, mostBuckets)).append(dice.below(10));
            }
            text.append(';');
        }
        return text.toString();
    }

    private String spoiled(String text) {
        StringBuilder spoiled = new StringBuilder(text);
        int at = dice.below(text.length());
        String signs = "D;0123456789:/ d";
        switch (dice.below(6)) {
            case 0:
                spoiled.setLength(at);
                break;
            case 1:
                spoiled.setCharAt(at, signs.charAt(dice.below(signs.length())));
                break;
            case 2:
                spoiled.insert(at, signs.charAt(dice.below(signs.length())));
                break;
            case 3:
                spoiled.append(signs.charAt(dice.below(signs.length())));
                break;
            case 4:
                spoiled.setCharAt(at, (char) dice.below(256));
                break;
            default:
                break;
        }
        return spoiled.toString();
    }

    private void put(String text) {
        for (int i = 0; i < text.length(); i++) {
            int c = text.charAt(i);
            same("append " + c, () -> fast.append(c), () -> slow.append(c));
        }
    }

    private int point() {
        return dice.about(0, slow.pointCount() - 1);
    }

    private void step() {
        int kind = dice.below(KINDS);
        if (kind < 12) {
            act(kind);
        } else if (kind < 22) {
            look();
        } else {
            ask(kind);
        }
    }

    private void act(int kind) {
        int p = point();
        int n = dice.about(1, dice.below(4) == 0 ? 99 : 5);
        int b = dice.about(1, 9);
        int buckets = dice.about(1, mostBuckets);
        int grade = dice.about(0, 9);
        int slot = dice.about(0, 1);
        switch (kind) {
            case 4:
                same("drawByOrder " + n, () -> fast.drawByOrder(n), () -> slow.drawByOrder(n));
                break;
            case 5:
                same("hang " + p, () -> fast.hang(p), () -> slow.hang(p));
                break;
            case 6:
                same("release " + p, () -> fast.release(p), () -> slow.release(p));
                break;
            case 7:
                same("addSlice " + p + " " + buckets + " " + grade,
                        () -> fast.addSlice(p, buckets, grade),
                        () -> slow.addSlice(p, buckets, grade));
                break;
            case 8:
                same("setBound " + b, () -> fast.setBound(b), () -> slow.setBound(b));
                break;
            case 9:
                same("undo", fast::undo, slow::undo);
                break;
            case 10:
                same("save " + slot, () -> fast.save(slot), () -> slow.save(slot));
                break;
            case 11:
                if (dice.below(3) == 0) {
                    same("restore " + slot, () -> fast.restore(slot), () -> slow.restore(slot));
                }
                break;
            default:
                same("draw " + p, () -> fast.draw(p), () -> slow.draw(p));
                break;
        }
    }

    private void look() {
        int p = point();
        int i = dice.about(0, dice.below(3) == 0 ? 99 : 8);
        switch (dice.below(9)) {
            case 0:
                same("pointCount", fast::pointCount, slow::pointCount);
                break;
            case 1:
                same("bound", fast::bound, slow::bound);
                break;
            case 2:
                same("drawn " + p, () -> fast.drawn(p), () -> slow.drawn(p));
                break;
            case 3:
                same("remaining " + p, () -> fast.remaining(p), () -> slow.remaining(p));
                break;
            case 4:
                same("sliceCount " + p, () -> fast.sliceCount(p), () -> slow.sliceCount(p));
                break;
            case 5:
                same("gradeAhead " + p + " " + i,
                        () -> fast.gradeAhead(p, i), () -> slow.gradeAhead(p, i));
                break;
            case 6:
                same("isHung " + p, () -> fast.isHung(p), () -> slow.isHung(p));
                break;
            case 7:
                same("totalBuckets", fast::totalBuckets, slow::totalBuckets);
                break;
            default:
                same("totalGrade", fast::totalGrade, slow::totalGrade);
                break;
        }
    }

    private void ask(int kind) {
        int p = point();
        int g = dice.about(1, 9);
        int i = dice.about(0, dice.below(4) == 0 ? 99 : 20);
        switch (kind) {
            case 22:
                same("isReady " + p, () -> fast.isReady(p), () -> slow.isReady(p));
                break;
            case 23:
                same("blockers " + p, () -> fast.blockers(p), () -> slow.blockers(p));
                break;
            case 24:
                same("slack " + p, () -> fast.slack(p), () -> slow.slack(p));
                break;
            case 25:
                same("nextByOrder", fast::nextByOrder, slow::nextByOrder);
                break;
            case 26:
                same("orderAhead " + i, () -> fast.orderAhead(i), () -> slow.orderAhead(i));
                break;
            case 27:
                same("bucketsToWaste " + p + " " + g,
                        () -> fast.bucketsToWaste(p, g), () -> slow.bucketsToWaste(p, g));
                break;
            case 28:
            case 29:
                askFeasible(p);
                break;
            case 30:
                askSequence();
                break;
            case 31:
                askOrigins();
                break;
            case 32:
                askScript();
                break;
            default:
                long seed = (long) dice.about(-9, 9) * 7919L;
                int m = dice.about(1, dice.below(4) == 0 ? 100 : 12);
                same("simulate " + seed + " " + m,
                        () -> fast.simulate(seed, m), () -> slow.simulate(seed, m));
                break;
        }
    }

    private void askFeasible(int p) {
        int k = dice.about(1, dice.below(4) == 0 ? 54 : 6);
        same("bucketsFor " + p + " " + k, () -> fast.bucketsFor(p, k), () -> slow.bucketsFor(p, k));
        same("mostFrom " + p, () -> fast.mostFrom(p), () -> slow.mostFrom(p));
    }

    private void askSequence() {
        int n = dice.about(1, 4);
        if (n >= 3 && slow.pointCount() > 9 && dice.below(20) != 0) {
            return;
        }
        int i = dice.about(0, Math.max(0, Math.min(4, n)));
        same("bestSequence " + n + " " + i,
                () -> fast.bestSequence(n, i), () -> slow.bestSequence(n, i));
    }

    private void askOrigins() {
        int m = dice.about(1, 9);
        int grades = dice.about(0, 9);
        // The grades of a column of the cave, so that there is often an origin.
        int p = dice.below(slow.pointCount());
        if (dice.below(3) != 0 && m >= 1 && m <= 9) {
            grades = 0;
            for (int i = 0; i < m; i++) {
                grades = grades * 10 + Math.max(0, slow.gradeAhead(p, i));
            }
        }
        int asked = grades;
        same("origins " + m + " " + asked,
                () -> fast.origins(m, asked), () -> slow.origins(m, asked));
    }

    private void askScript() {
        int n = dice.about(1, 4);
        int groups = n >= 1 && n <= 4 ? n : 1;
        long script = 0;
        for (int i = 0; i < groups; i++) {
            script = script * 10000 + command();
        }
        if (dice.below(12) == 0) {
            script = dice.below(2) == 0 ? script * 10 + 1 : -script;
        }
        long asked = script;
        same("runScript " + n + " " + asked,
                () -> fast.runScript(n, asked), () -> slow.runScript(n, asked));
    }

    private int command() {
        int p = dice.below(slow.pointCount() + (dice.below(8) == 0 ? 3 : 0));
        switch (dice.below(8)) {
            case 0:
            case 1:
                return 1000 + p * 10 + dice.below(4);
            case 2:
                return 2000 + p * 10 + (dice.below(8) == 0 ? 1 : 0);
            case 3:
                return 3000 + p * 10 + (dice.below(8) == 0 ? 1 : 0);
            case 4:
                return 4000 + p * 10 + dice.below(4);
            case 5:
                return 5000 + p * 10 + dice.below(8);
            case 6:
                return 6000 + dice.below(dice.below(4) == 0 ? 120 : 9);
            default:
                return dice.below(10000);
        }
    }

    private void same(String name, Call fastCall, Call slowCall) {
        if (calls >= MOST_CALLS) {
            return;
        }
        calls++;
        Object got = outcome(fastCall);
        Object due = outcome(slowCall);
        if (!due.equals(got)) {
            throw new AssertionError("call " + calls + ", " + name + ": answered " + got
                    + ", due is " + due);
        }
    }

    private static Object outcome(Call call) {
        try {
            return call.run();
        } catch (RuntimeException e) {
            return "throws " + e.getClass().getSimpleName();
        }
    }
}
