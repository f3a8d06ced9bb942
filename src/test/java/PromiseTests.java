/** Each promise of the document: ordinary inputs, the edges that it names, and wrong inputs. */
public final class PromiseTests {
    private static final int NONE = CaveDraw.NONE;

    public static void main(String[] args) {
        TestKit kit = new TestKit();
        runText(kit);
        runCave(kit);
        runActions(kit);
        runQuestions(kit);
        runScripts(kit);
        kit.finish();
    }

    private static void runText(TestKit kit) {
        kit.test("1: a new object", PromiseTests::newObject);
        kit.test("2: append", PromiseTests::append);
        kit.test("3: clearText", PromiseTests::clearText);
        kit.test("4: errorPosition", PromiseTests::errorPosition);
        kit.test("4: errorPosition, the head", PromiseTests::errorInHead);
        kit.test("4: errorPosition, the columns", PromiseTests::errorInColumns);
        kit.test("5: load", PromiseTests::load);
        kit.test("5: load forgets", PromiseTests::loadForgets);
        kit.test("5: load refuses", PromiseTests::loadRefuses);
    }

    private static void runCave(TestKit kit) {
        kit.test("6: pointCount", PromiseTests::pointCount);
        kit.test("7: bound", PromiseTests::bound);
        kit.test("8: drawn", PromiseTests::drawn);
        kit.test("9: remaining", PromiseTests::remaining);
        kit.test("10: sliceCount", PromiseTests::sliceCount);
        kit.test("11: gradeAhead", PromiseTests::gradeAhead);
        kit.test("12: isHung", PromiseTests::isHung);
        kit.test("13: totalBuckets", PromiseTests::totalBuckets);
        kit.test("14: totalGrade", PromiseTests::totalGrade);
    }

    private static void runActions(TestKit kit) {
        kit.test("15: draw", PromiseTests::draw);
        kit.test("15: draw, whole columns", PromiseTests::drawWholeColumns);
        kit.test("15: draw refuses", PromiseTests::drawRefuses);
        kit.test("16: drawByOrder", PromiseTests::drawByOrder);
        kit.test("16: drawByOrder of nothing", PromiseTests::drawByOrderOfNothing);
        kit.test("17: hang", PromiseTests::hang);
        kit.test("18: release", PromiseTests::release);
        kit.test("19: addSlice", PromiseTests::addSlice);
        kit.test("19: addSlice refuses", PromiseTests::addSliceRefuses);
        kit.test("20: setBound", PromiseTests::setBound);
        kit.test("20: setBound refuses", PromiseTests::setBoundRefuses);
        kit.test("21: undo", PromiseTests::undo);
        kit.test("21: undo of all kinds", PromiseTests::undoOfAllKinds);
        kit.test("21: undo has 14 states", PromiseTests::undoHasFourteen);
    }

    private static void runQuestions(TestKit kit) {
        kit.test("22: isReady", PromiseTests::isReady);
        kit.test("23: blockers", PromiseTests::blockers);
        kit.test("24: slack", PromiseTests::slack);
        kit.test("25: nextByOrder", PromiseTests::nextByOrder);
        kit.test("26: orderAhead", PromiseTests::orderAhead);
        kit.test("27: bucketsToWaste", PromiseTests::bucketsToWaste);
        kit.test("28: bucketsFor", PromiseTests::bucketsFor);
        kit.test("28: bucketsFor that is not feasible", PromiseTests::bucketsForNone);
        kit.test("29: mostFrom", PromiseTests::mostFrom);
        kit.test("30: bestSequence", PromiseTests::bestSequence);
        kit.test("30: bestSequence, among several", PromiseTests::bestSequenceAmongSeveral);
        kit.test("30: bestSequence, the bound", PromiseTests::bestSequenceAndBound);
        kit.test("31: origins", PromiseTests::origins);
        kit.test("31: origins refuses", PromiseTests::originsRefuses);
        kit.test("questions change nothing", PromiseTests::questionsChangeNothing);
    }

    private static void runScripts(TestKit kit) {
        kit.test("32: runScript, draws", PromiseTests::scriptDraws);
        kit.test("32: runScript, hanging", PromiseTests::scriptHangs);
        kit.test("32: runScript, tests", PromiseTests::scriptTests);
        kit.test("32: runScript, by order", PromiseTests::scriptByOrder);
        kit.test("32: runScript, failures", PromiseTests::scriptFails);
        kit.test("32: runScript refuses", PromiseTests::scriptRefuses);
        kit.test("33: simulate", PromiseTests::simulate);
        kit.test("33: simulate and the seed", PromiseTests::simulateSeed);
        kit.test("34: save", PromiseTests::save);
        kit.test("35: restore", PromiseTests::restore);
        kit.test("35: restore refuses", PromiseTests::restoreRefuses);
    }

    // ---- text

    private static void newObject() {
        CaveDraw x = new CaveDraw();
        TestKit.equal(x.pointCount(), 4);
        TestKit.equal(x.bound(), 2);
        for (int p = 0; p < 4; p++) {
            TestKit.equal(x.remaining(p), 0);
            TestKit.equal(x.sliceCount(p), 0);
            TestKit.equal(x.drawn(p), 0);
            TestKit.equal(x.isHung(p), false);
        }
        TestKit.equal(x.totalBuckets() + x.totalGrade(), 0);
        TestKit.equal(x.clearText(), 0);
        TestKit.fails(TestKit.STATE, x::undo);
        TestKit.fails(TestKit.STATE, () -> x.restore(0));
        TestKit.fails(TestKit.STATE, () -> x.restore(1));
        // Two rows and two columns: 0 has the neighbours 1 and 2.
        x.addSlice(0, 9, 1);
        TestKit.drawTimes(x, 0, 2);
        TestKit.equal(x.blockers(0), 6);
    }

    private static void append() {
        CaveDraw x = new CaveDraw();
        TestKit.equal(x.append(0), 1);
        TestKit.equal(x.append(255), 2);
        TestKit.fails(TestKit.ARGUMENT, () -> x.append(-1));
        TestKit.fails(TestKit.ARGUMENT, () -> x.append(256));
        for (int n = 3; n <= 120; n++) {
            TestKit.equal(x.append('D'), n);
        }
        TestKit.fails(TestKit.STATE, () -> x.append('D'));
        TestKit.fails(TestKit.ARGUMENT, () -> x.append(256));
        TestKit.equal(x.clearText(), 120);
    }

    private static void clearText() {
        CaveDraw x = new CaveDraw();
        TestKit.put(x, "D111;");
        TestKit.equal(x.clearText(), 5);
        TestKit.equal(x.clearText(), 0);
        TestKit.equal(x.errorPosition(), 0);
        TestKit.equal(x.append('D'), 1);
        TestKit.equal(x.errorPosition(), 1);
    }

    private static void errorAt(String text, int due) {
        CaveDraw x = new CaveDraw();
        TestKit.put(x, text);
        TestKit.equal(x.errorPosition(), due);
        TestKit.equal(x.clearText(), text.length());
    }

    private static void errorPosition() {
        errorAt("", 0);
        errorAt("D111;", NONE);
        errorAt("D121299;10;", 7);
        errorAt("D1212999;10;", NONE);
        errorAt("D449;;;;;;;;;;;;;;;;", NONE);
        errorAt("D449;;;;;;;;;;;;;;;", 19);
        errorAt("D449;;;;;;;;;;;;;;;;;", 20);
        errorAt("D111;;", 5);
        errorAt("D111;x", 5);
    }

    private static void errorInHead() {
        errorAt("d111;", 0);
        errorAt("D", 1);
        errorAt("D0", 1);
        errorAt("D5", 1);
        errorAt("DD", 1);
        errorAt("D1", 2);
        errorAt("D10", 2);
        errorAt("D15", 2);
        errorAt("D11", 3);
        errorAt("D110", 3);
        errorAt("D11:", 3);
        errorAt("D11;", 3);
        errorAt("D111", 4);
        errorAt("D449", 4);
    }

    private static void errorInColumns() {
        errorAt("D1110", 4);
        errorAt("D1111", 5);
        errorAt("D1111;", 5);
        errorAt("D11110", 6);
        errorAt("D1111:", 5);
        errorAt("D111/0;", 4);
        errorAt("D11199;", NONE);
        errorAt("D111101112131415;", NONE);
        errorAt("D11110111213141516;", 16);
        errorAt("D111101112131415", 16);
        errorAt("D121;101112131415;", NONE);
    }

    private static void load() {
        CaveDraw x = new CaveDraw();
        TestKit.put(x, "D2341925;34;;;5678;90;");
        TestKit.equal(x.load(), 6);
        TestKit.equal(x.pointCount(), 6);
        TestKit.equal(x.bound(), 4);
        int[] remaining = {3, 3, 0, 0, 12, 9};
        int[] slices = {2, 1, 0, 0, 2, 1};
        int[] nextGrades = {9, 4, NONE, NONE, 6, 0};
        for (int p = 0; p < 6; p++) {
            TestKit.equal(x.remaining(p), remaining[p]);
            TestKit.equal(x.sliceCount(p), slices[p]);
            TestKit.equal(x.gradeAhead(p, 0), nextGrades[p]);
        }
        // Row 1 and column 1 is the drawpoint 4; its neighbours are 1, 3 and 5.
        TestKit.drawTimes(x, 4, 4);
        TestKit.equal(x.blockers(4), 2 + 8 + 32);
        TestKit.equal(x.clearText(), 22);
        TestKit.equal(TestKit.loaded("D119123456789012;").remaining(0), 1 + 3 + 5 + 7 + 9 + 1);
        TestKit.equal(TestKit.loaded("D441;;;;;;;;;;;;;;;;").pointCount(), 16);
    }

    private static void loadForgets() {
        CaveDraw x = TestKit.loaded("D12359;34;");
        x.draw(0);
        x.hang(1);
        x.save(0);
        x.save(1);
        TestKit.equal(x.load(), 2);
        TestKit.equal(x.drawn(0), 0);
        TestKit.equal(x.remaining(0), 5);
        TestKit.equal(x.isHung(1), false);
        TestKit.equal(x.totalBuckets(), 0);
        TestKit.equal(x.totalGrade(), 0);
        TestKit.fails(TestKit.STATE, x::undo);
        TestKit.fails(TestKit.STATE, () -> x.restore(0));
        TestKit.fails(TestKit.STATE, () -> x.restore(1));
        // load is no action.
        TestKit.equal(x.load(), 2);
        TestKit.fails(TestKit.STATE, x::undo);
    }

    private static void loadRefuses() {
        CaveDraw x = new CaveDraw();
        TestKit.fails(TestKit.STATE, x::load);
        x.addSlice(3, 4, 5);
        x.save(1);
        TestKit.put(x, "D111");
        TestKit.fails(TestKit.STATE, x::load);
        TestKit.equal(x.pointCount(), 4);
        TestKit.equal(x.remaining(3), 4);
        x.append(';');
        x.append(';');
        TestKit.fails(TestKit.STATE, x::load);
        TestKit.equal(x.restore(1), 0);
        TestKit.equal(x.clearText(), 6);
        TestKit.put(x, "D111;");
        TestKit.equal(x.load(), 1);
    }

    // ---- the cave

    private static void pointCount() {
        TestKit.equal(new CaveDraw().pointCount(), 4);
        TestKit.equal(TestKit.loaded("D111;").pointCount(), 1);
        TestKit.equal(TestKit.loaded("D341;;;;;;;;;;;;").pointCount(), 12);
    }

    private static void bound() {
        CaveDraw x = TestKit.loaded("D119;");
        TestKit.equal(x.bound(), 9);
        x.setBound(1);
        TestKit.equal(x.bound(), 1);
        x.undo();
        TestKit.equal(x.bound(), 9);
    }

    /** What each method with a drawpoint p does for a p that does not exist. */
    private interface OfPoint {
        void call(CaveDraw x, int p);
    }

    private static void failsWithoutPoint(OfPoint method) {
        CaveDraw x = new CaveDraw();
        int[] none = {-1, 4, 16, 32, NONE, Integer.MIN_VALUE, Integer.MAX_VALUE};
        for (int p : none) {
            TestKit.fails(TestKit.INDEX, () -> method.call(x, p));
        }
        CaveDraw small = TestKit.loaded("D111;");
        TestKit.fails(TestKit.INDEX, () -> method.call(small, 1));
        CaveDraw great = TestKit.loaded("D441;;;;;;;;;;;;;;;;");
        TestKit.fails(TestKit.INDEX, () -> method.call(great, 16));
        TestKit.fails(TestKit.STATE, great::undo);
    }

    private static void drawn() {
        CaveDraw x = TestKit.loaded("D12259;39;");
        TestKit.drawTimes(x, 0, 2);
        x.draw(1);
        TestKit.equal(x.drawn(0), 2);
        TestKit.equal(x.drawn(1), 1);
        // A column that was drawn empty keeps its number, and goes on counting.
        CaveDraw y = TestKit.loaded("D11111;");
        y.draw(0);
        y.addSlice(0, 1, 1);
        y.draw(0);
        TestKit.equal(y.drawn(0), 2);
        failsWithoutPoint((z, p) -> z.drawn(p));
    }

    private static void remaining() {
        CaveDraw x = TestKit.loaded("D111919293949596;");
        for (int left = 54; left > 0; left--) {
            TestKit.equal(x.remaining(0), left);
            x.draw(0);
        }
        TestKit.equal(x.remaining(0), 0);
        failsWithoutPoint((z, p) -> z.remaining(p));
    }

    private static void sliceCount() {
        CaveDraw x = TestKit.loaded("D111211131;");
        int[] due = {3, 3, 2, 1, 1, 1};
        for (int count : due) {
            TestKit.equal(x.sliceCount(0), count);
            x.draw(0);
        }
        TestKit.equal(x.sliceCount(0), 0);
        failsWithoutPoint((z, p) -> z.sliceCount(p));
    }

    private static void gradeAhead() {
        CaveDraw x = TestKit.loaded("D121251037;;");
        int[] due = {5, 5, 0, 7, 7, 7, NONE};
        for (int i = 0; i < due.length; i++) {
            TestKit.equal(x.gradeAhead(0, i), due[i]);
        }
        TestKit.equal(x.gradeAhead(0, 99), NONE);
        TestKit.equal(x.gradeAhead(1, 0), NONE);
        x.draw(0);
        TestKit.equal(x.gradeAhead(0, 1), 0);
        TestKit.equal(TestKit.loaded("D111919293949596;").gradeAhead(0, 53), 6);
        TestKit.equal(TestKit.loaded("D111919293949596;").gradeAhead(0, 54), NONE);
        TestKit.fails(TestKit.ARGUMENT, () -> x.gradeAhead(0, -1));
        TestKit.fails(TestKit.ARGUMENT, () -> x.gradeAhead(0, 100));
        TestKit.fails(TestKit.ARGUMENT, () -> x.gradeAhead(1, Integer.MAX_VALUE));
        TestKit.fails(TestKit.INDEX, () -> x.gradeAhead(2, 100));
        failsWithoutPoint((z, p) -> z.gradeAhead(p, 0));
    }

    private static void isHung() {
        CaveDraw x = new CaveDraw();
        x.hang(3);
        TestKit.equal(x.isHung(3), true);
        TestKit.equal(x.isHung(2), false);
        x.release(3);
        TestKit.equal(x.isHung(3), false);
        failsWithoutPoint((z, p) -> z.isHung(p));
    }

    private static void totalBuckets() {
        CaveDraw x = TestKit.loaded("D12259;39;");
        TestKit.equal(x.totalBuckets(), 0);
        x.draw(0);
        x.drawByOrder(4);
        TestKit.equal(x.totalBuckets(), 5);
        x.undo();
        TestKit.equal(x.totalBuckets(), 1);
    }

    private static void totalGrade() {
        CaveDraw x = TestKit.loaded("D112192735;");
        int[] due = {9, 16, 23};
        for (int sum : due) {
            x.draw(0);
            TestKit.equal(x.totalGrade(), sum);
        }
        x.undo();
        TestKit.equal(x.totalGrade(), 16);
    }

    // ---- actions

    private static void draw() {
        CaveDraw x = TestKit.loaded("D1111928;");
        TestKit.equal(x.draw(0), 9);
        TestKit.equal(x.sliceCount(0), 1);
        TestKit.equal(x.draw(0), 8);
        TestKit.equal(x.draw(0), 8);
        TestKit.equal(x.sliceCount(0), 0);
        TestKit.equal(x.undo(), 2);
        TestKit.equal(x.draw(0), 8);
        failsWithoutPoint((z, p) -> z.draw(p));
    }

    private static void drawWholeColumns() {
        int[][] due = {{9, 8, 8, 7, 6, 6, 5, 5, 5, 4, 4}, {1, 2, 2, 3, 4, 4, 5, 6, 6, 6, NONE}};
        CaveDraw x = TestKit.loaded("D129192817263524;112213241536;");
        for (int i = 0; i < 11; i++) {
            for (int p = 0; p < 2; p++) {
                TestKit.equal(x.gradeAhead(p, x.remaining(p)), NONE);
                if (due[p][i] != NONE) {
                    TestKit.equal(x.draw(p), due[p][i]);
                }
            }
        }
        TestKit.equal(x.remaining(0) + x.remaining(1), 0);
        // The last column of the greatest grid.
        CaveDraw y = TestKit.loaded("D449;;;;;;;;;;;;;;;111213141516;");
        for (int grade = 1; grade <= 6; grade++) {
            TestKit.equal(y.draw(15), grade);
            TestKit.equal(y.sliceCount(15), 6 - grade);
        }
    }

    private static void drawRefuses() {
        CaveDraw x = TestKit.loaded("D13195;;93;");
        TestKit.fails(TestKit.STATE, () -> x.draw(1));
        x.draw(0);
        TestKit.fails(TestKit.STATE, () -> x.draw(0));
        x.hang(2);
        TestKit.fails(TestKit.STATE, () -> x.draw(2));
        TestKit.equal(x.totalBuckets(), 1);
        TestKit.equal(x.undo(), 1);
        TestKit.equal(x.undo(), 0);
        // The drawn number of a hung drawpoint still counts for its neighbours.
        CaveDraw y = TestKit.loaded("D12195;91;");
        y.hang(1);
        y.draw(0);
        TestKit.fails(TestKit.STATE, () -> y.draw(0));
        // No drawpoint at a corner is a neighbour.
        CaveDraw z = TestKit.loaded("D22191;91;91;91;");
        z.draw(1);
        z.draw(2);
        z.draw(0);
        z.draw(0);
        TestKit.equal(z.drawn(0), 2);
        TestKit.equal(z.drawn(3), 0);
        TestKit.fails(TestKit.STATE, () -> z.draw(0));
        TestKit.fails(TestKit.STATE, () -> z.draw(1));
    }

    private static void drawByOrder() {
        CaveDraw x = TestKit.loaded("D12151;52;");
        // Equal slack, so the grade decides; then the drawn numbers alternate.
        TestKit.equal(x.drawByOrder(1), 1);
        TestKit.equal(x.drawn(1), 1);
        TestKit.equal(x.drawByOrder(4), 4);
        TestKit.equal(x.undo(), 1);
        TestKit.equal(x.totalBuckets(), 1);
        TestKit.equal(x.drawByOrder(99), 9);
        TestKit.equal(x.totalGrade(), 15);
        TestKit.equal(x.undo(), 1);
        TestKit.fails(TestKit.ARGUMENT, () -> x.drawByOrder(0));
        TestKit.fails(TestKit.ARGUMENT, () -> x.drawByOrder(100));
        TestKit.fails(TestKit.ARGUMENT, () -> x.drawByOrder(Integer.MIN_VALUE));
        TestKit.equal(x.totalBuckets(), 1);
        TestKit.equal(x.undo(), 0);
        CaveDraw y = TestKit.loaded("D141919293949596;;;;");
        TestKit.equal(y.drawByOrder(99), 1);
        CaveDraw z = TestKit.loaded("D112919191919191;");
        TestKit.equal(z.drawByOrder(53), 53);
        TestKit.equal(z.remaining(0), 1);
    }

    private static void drawByOrderOfNothing() {
        CaveDraw x = new CaveDraw();
        TestKit.equal(x.drawByOrder(5), 0);
        TestKit.equal(x.undo(), 0);
        TestKit.fails(TestKit.STATE, x::undo);
    }

    private static void hang() {
        CaveDraw x = new CaveDraw();
        TestKit.equal(x.hang(3), 1);
        TestKit.equal(x.hang(0), 2);
        TestKit.fails(TestKit.STATE, () -> x.hang(3));
        TestKit.equal(x.undo(), 1);
        TestKit.equal(x.isHung(0), false);
        TestKit.equal(x.isHung(3), true);
        CaveDraw great = TestKit.loaded("D441;;;;;;;;;;;;;;;;");
        for (int p = 15; p >= 0; p--) {
            TestKit.equal(great.hang(p), 16 - p);
        }
        failsWithoutPoint((z, p) -> z.hang(p));
    }

    private static void release() {
        CaveDraw x = TestKit.loaded("D22111;11;11;11;");
        TestKit.fails(TestKit.STATE, () -> x.release(0));
        x.hang(0);
        x.hang(1);
        TestKit.equal(x.release(0), 1);
        TestKit.fails(TestKit.STATE, () -> x.release(0));
        TestKit.equal(x.draw(0), 1);
        x.undo();
        TestKit.equal(x.release(1), 0);
        TestKit.equal(x.undo(), 3);
        TestKit.equal(x.isHung(1), true);
        failsWithoutPoint((z, p) -> z.release(p));
    }

    private static void addSlice() {
        CaveDraw x = new CaveDraw();
        TestKit.equal(x.addSlice(1, 1, 0), 1);
        TestKit.equal(x.addSlice(1, 9, 9), 2);
        // A slice of the same grade is a slice of its own.
        TestKit.equal(x.addSlice(1, 9, 9), 3);
        TestKit.equal(x.gradeAhead(1, 0), 0);
        TestKit.equal(x.gradeAhead(1, 1), 9);
        TestKit.equal(x.remaining(1), 19);
        TestKit.equal(x.undo(), 2);
        TestKit.equal(x.remaining(1), 10);
        x.hang(1);
        TestKit.equal(x.addSlice(1, 2, 2), 3);
        failsWithoutPoint((z, p) -> z.addSlice(p, 1, 1));
        failsWithoutPoint((z, p) -> z.addSlice(p, 10, 10));
    }

    private static void addSliceRefuses() {
        CaveDraw x = TestKit.loaded("D111111111111111;");
        TestKit.fails(TestKit.STATE, () -> x.addSlice(0, 1, 1));
        TestKit.fails(TestKit.ARGUMENT, () -> x.addSlice(0, 0, 1));
        TestKit.fails(TestKit.ARGUMENT, () -> x.addSlice(0, 10, 1));
        TestKit.fails(TestKit.ARGUMENT, () -> x.addSlice(0, 1, -1));
        TestKit.fails(TestKit.ARGUMENT, () -> x.addSlice(0, 1, 10));
        TestKit.fails(TestKit.STATE, x::undo);
        TestKit.equal(x.remaining(0), 6);
        // A slice that vanished leaves its place.
        x.draw(0);
        TestKit.equal(x.addSlice(0, 9, 5), 6);
        TestKit.equal(x.gradeAhead(0, 5), 5);
        TestKit.equal(x.gradeAhead(0, 4), 1);
        TestKit.fails(TestKit.STATE, () -> x.addSlice(0, 1, 1));
    }

    private static void setBound() {
        CaveDraw x = new CaveDraw();
        TestKit.equal(x.setBound(9), 2);
        TestKit.equal(x.setBound(9), 9);
        TestKit.equal(x.setBound(1), 9);
        TestKit.equal(x.undo(), 2);
        TestKit.equal(x.bound(), 9);
        TestKit.equal(x.undo(), 1);
        TestKit.equal(x.undo(), 0);
        TestKit.equal(x.bound(), 2);
    }

    private static void setBoundRefuses() {
        CaveDraw x = TestKit.loaded("D319;95;;");
        TestKit.drawTimes(x, 1, 3);
        TestKit.fails(TestKit.STATE, () -> x.setBound(2));
        TestKit.fails(TestKit.ARGUMENT, () -> x.setBound(0));
        TestKit.fails(TestKit.ARGUMENT, () -> x.setBound(10));
        TestKit.equal(x.bound(), 9);
        TestKit.equal(x.setBound(3), 9);
        TestKit.equal(x.undo(), 3);
        // Only neighbours count: here 0 and 2 differ by 2.
        CaveDraw y = TestKit.loaded("D13291;91;;");
        y.draw(0);
        y.draw(0);
        TestKit.fails(TestKit.STATE, () -> y.setBound(1));
        y.draw(1);
        TestKit.equal(y.setBound(1), 2);
        CaveDraw great = TestKit.loaded("D449;;;;;;;;;;;;;;;91;");
        great.draw(15);
        TestKit.equal(great.setBound(1), 9);
        great.setBound(2);
        great.draw(15);
        TestKit.fails(TestKit.STATE, () -> great.setBound(1));
    }

    private static void undo() {
        CaveDraw x = TestKit.loaded("D12357;;");
        x.draw(0);
        x.draw(0);
        TestKit.equal(x.undo(), 1);
        TestKit.equal(x.drawn(0), 1);
        TestKit.equal(x.totalGrade(), 7);
        x.hang(1);
        TestKit.equal(x.undo(), 1);
        TestKit.equal(x.undo(), 0);
        TestKit.equal(x.drawn(0), 0);
        TestKit.fails(TestKit.STATE, x::undo);
        // The text and the slots are no part of the state.
        x.save(0);
        x.draw(0);
        x.save(1);
        x.append('x');
        TestKit.equal(x.undo(), 0);
        TestKit.equal(x.clearText(), 9);
        TestKit.equal(x.restore(1), 1);
        TestKit.equal(x.restore(0), 0);
    }

    private static void undoOfAllKinds() {
        CaveDraw x = TestKit.loaded("D1231928;37;");
        x.draw(0);
        x.drawByOrder(3);
        x.hang(1);
        x.addSlice(1, 4, 4);
        x.setBound(5);
        x.release(1);
        TestKit.equal(x.undo(), 5);
        TestKit.equal(x.isHung(1), true);
        TestKit.equal(x.undo(), 4);
        TestKit.equal(x.bound(), 3);
        TestKit.equal(x.undo(), 3);
        TestKit.equal(x.sliceCount(1), 1);
        TestKit.equal(x.undo(), 2);
        TestKit.equal(x.isHung(1), false);
        TestKit.equal(x.undo(), 1);
        TestKit.equal(x.totalBuckets(), 1);
        TestKit.equal(x.totalGrade(), 9);
        TestKit.equal(x.undo(), 0);
        TestKit.equal(x.sliceCount(0), 2);
        TestKit.equal(x.gradeAhead(0, 0), 9);
        TestKit.equal(x.gradeAhead(0, 1), 8);
    }

    private static void undoHasFourteen() {
        CaveDraw x = TestKit.loaded("D111919293;");
        TestKit.drawTimes(x, 0, 20);
        for (int left = 13; left >= 0; left--) {
            TestKit.equal(x.undo(), left);
            TestKit.equal(x.drawn(0), 6 + left);
        }
        TestKit.fails(TestKit.STATE, x::undo);
        TestKit.equal(x.drawn(0), 6);
        TestKit.drawTimes(x, 0, 15);
        TestKit.equal(x.undo(), 13);
        TestKit.equal(x.drawn(0), 20);
    }

    // ---- questions

    private static void isReady() {
        CaveDraw x = TestKit.loaded("D13191;;91;");
        TestKit.equal(x.isReady(0), true);
        TestKit.equal(x.isReady(1), false);
        x.draw(0);
        TestKit.equal(x.isReady(0), false);
        TestKit.equal(x.isReady(2), true);
        x.hang(2);
        TestKit.equal(x.isReady(2), false);
        x.setBound(2);
        TestKit.equal(x.isReady(0), true);
        failsWithoutPoint((z, p) -> z.isReady(p));
    }

    private static void blockers() {
        CaveDraw x = TestKit.loaded("D332;91;;91;91;91;;91;;");
        TestKit.equal(x.blockers(4), 0);
        TestKit.drawTimes(x, 4, 2);
        TestKit.equal(x.blockers(4), 2 + 8 + 32 + 128);
        x.draw(1);
        TestKit.equal(x.blockers(4), 8 + 32 + 128);
        x.draw(7);
        x.hang(4);
        TestKit.equal(x.blockers(4), 8 + 32);
        TestKit.equal(x.blockers(0), 0);
        TestKit.equal(TestKit.loaded("D111;").blockers(0), 0);
        // The column may be empty.
        CaveDraw y = TestKit.loaded("D22111;;;;");
        y.draw(0);
        TestKit.equal(y.blockers(0), 6);
        // The greatest grid has the greatest bit.
        CaveDraw z = TestKit.loaded("D441;;;;;;;;;;;;;;11;;");
        z.draw(14);
        TestKit.equal(z.blockers(14), (1 << 10) + (1 << 13) + (1 << 15));
        // The drawpoint 0 blocks too.
        CaveDraw v = TestKit.loaded("D121;11;");
        v.draw(1);
        TestKit.equal(v.blockers(1), 1);
        failsWithoutPoint((w, p) -> w.blockers(p));
    }

    private static void slack() {
        CaveDraw x = TestKit.loaded("D12219;11;");
        TestKit.equal(x.slack(0), 1);
        x.addSlice(0, 5, 1);
        TestKit.equal(x.slack(0), 2);
        x.draw(0);
        TestKit.equal(x.slack(0), 1);
        x.draw(1);
        TestKit.equal(x.slack(0), 2);
        x.hang(0);
        TestKit.equal(x.slack(0), 0);
        TestKit.equal(x.slack(1), 0);
        CaveDraw y = TestKit.loaded("D111919191919191;");
        TestKit.equal(y.slack(0), 54);
        y.hang(0);
        TestKit.equal(y.slack(0), 0);
        // The neighbour that is least drawn counts.
        CaveDraw z = TestKit.loaded("D13391;91;91;");
        TestKit.drawTimes(z, 0, 2);
        z.draw(2);
        TestKit.equal(z.slack(1), 4);
        z.draw(1);
        TestKit.equal(z.slack(1), 3);
        failsWithoutPoint((w, p) -> w.slack(p));
    }

    private static void nextByOrder() {
        TestKit.equal(new CaveDraw().nextByOrder(), NONE);
        // The greatest slack goes before the greatest grade.
        TestKit.equal(TestKit.loaded("D14219;;21;39;").nextByOrder(), 3);
        TestKit.equal(TestKit.loaded("D13219;;21;").nextByOrder(), 2);
        TestKit.equal(TestKit.loaded("D13221;;22;").nextByOrder(), 2);
        TestKit.equal(TestKit.loaded("D13222;;22;").nextByOrder(), 0);
        TestKit.equal(TestKit.loaded("D13220;;20;").nextByOrder(), 0);
        // The grade is that of the next bucket alone.
        TestKit.equal(TestKit.loaded("D1321119;;22;").nextByOrder(), 2);
        CaveDraw x = TestKit.loaded("D13229;;21;");
        x.hang(0);
        TestKit.equal(x.nextByOrder(), 2);
        x.hang(2);
        TestKit.equal(x.nextByOrder(), NONE);
    }

    private static void orderAhead() {
        CaveDraw x = TestKit.loaded("D12231;32;");
        CaveDraw y = TestKit.loaded("D12231;32;");
        for (int i = 0; i < 6; i++) {
            TestKit.equal(x.orderAhead(i), y.nextByOrder());
            y.drawByOrder(1);
        }
        TestKit.equal(x.orderAhead(0), 1);
        TestKit.equal(x.orderAhead(1), 0);
        TestKit.equal(x.orderAhead(6), NONE);
        TestKit.equal(x.orderAhead(99), NONE);
        TestKit.equal(x.totalBuckets(), 0);
        CaveDraw many = TestKit.loaded("D219919191919191;919191919191;");
        TestKit.equal(many.orderAhead(99) != NONE, true);
        TestKit.fails(TestKit.ARGUMENT, () -> x.orderAhead(-1));
        TestKit.fails(TestKit.ARGUMENT, () -> x.orderAhead(100));
    }

    private static void bucketsToWaste() {
        CaveDraw x = TestKit.loaded("D12129371590;55;");
        TestKit.equal(x.bucketsToWaste(0, 9), 2);
        TestKit.equal(x.bucketsToWaste(0, 8), 2);
        TestKit.equal(x.bucketsToWaste(0, 7), 5);
        TestKit.equal(x.bucketsToWaste(0, 5), 6);
        TestKit.equal(x.bucketsToWaste(0, 1), 6);
        TestKit.equal(x.bucketsToWaste(1, 5), NONE);
        TestKit.equal(x.bucketsToWaste(1, 6), 0);
        x.draw(0);
        TestKit.equal(x.bucketsToWaste(0, 9), 1);
        TestKit.equal(new CaveDraw().bucketsToWaste(0, 9), NONE);
        TestKit.fails(TestKit.ARGUMENT, () -> x.bucketsToWaste(0, 0));
        TestKit.fails(TestKit.ARGUMENT, () -> x.bucketsToWaste(0, 10));
        failsWithoutPoint((w, p) -> w.bucketsToWaste(p, 1));
        failsWithoutPoint((w, p) -> w.bucketsToWaste(p, 0));
    }

    private static void bucketsFor() {
        CaveDraw x = TestKit.loaded("D13191;91;91;");
        TestKit.equal(x.bucketsFor(0, 1), 1);
        TestKit.equal(x.bucketsFor(0, 2), 3);
        TestKit.equal(x.bucketsFor(0, 3), 6);
        TestKit.equal(x.bucketsFor(1, 3), 7);
        // What is drawn already is not needed again.
        x.draw(2);
        x.draw(1);
        TestKit.equal(x.bucketsFor(0, 2), 2);
        TestKit.equal(x.bucketsFor(0, 3), 4);
        // A grid of two dimensions: the distance counts by rows and columns.
        CaveDraw y = TestKit.loaded("D22291;91;91;91;");
        TestKit.equal(y.bucketsFor(0, 2), 2);
        TestKit.equal(y.bucketsFor(0, 3), 5);
        TestKit.equal(y.bucketsFor(0, 5), 5 + 3 + 3 + 1);
        CaveDraw z = TestKit.loaded("D111919191919191;");
        TestKit.equal(z.bucketsFor(0, 54), 54);
        TestKit.fails(TestKit.ARGUMENT, () -> z.bucketsFor(0, 0));
        TestKit.fails(TestKit.ARGUMENT, () -> z.bucketsFor(0, 55));
        failsWithoutPoint((w, p) -> w.bucketsFor(p, 1));
        failsWithoutPoint((w, p) -> w.bucketsFor(p, 0));
    }

    private static void bucketsForNone() {
        CaveDraw x = TestKit.loaded("D13131;21;11;");
        TestKit.equal(x.bucketsFor(0, 3), 6);
        TestKit.equal(x.bucketsFor(0, 4), NONE);
        TestKit.equal(x.bucketsFor(0, 54), NONE);
        x.hang(2);
        TestKit.equal(x.bucketsFor(0, 3), NONE);
        TestKit.equal(x.bucketsFor(0, 2), 3);
        TestKit.equal(x.bucketsFor(2, 1), NONE);
        // A hung drawpoint that need not move does no harm.
        x.release(2);
        x.draw(2);
        x.hang(2);
        TestKit.equal(x.bucketsFor(0, 3), 5);
        TestKit.equal(new CaveDraw().bucketsFor(0, 1), NONE);
    }

    private static void mostFrom() {
        CaveDraw x = TestKit.loaded("D13191;21;11;");
        TestKit.equal(x.mostFrom(0), 3);
        TestKit.equal(x.mostFrom(1), 2);
        TestKit.equal(x.mostFrom(2), 1);
        x.hang(2);
        TestKit.equal(x.mostFrom(0), 2);
        TestKit.equal(x.mostFrom(2), 0);
        TestKit.equal(new CaveDraw().mostFrom(3), 0);
        TestKit.equal(TestKit.loaded("D111919191919191;").mostFrom(0), 54);
        TestKit.equal(TestKit.loaded("D119919191919181;").mostFrom(0), 53);
        failsWithoutPoint((w, p) -> w.mostFrom(p));
    }

    private static void bestIs(CaveDraw x, int... due) {
        int n = due.length - 1;
        for (int i = 0; i <= n; i++) {
            TestKit.equal(x.bestSequence(n, i), due[i]);
        }
    }

    private static void bestSequence() {
        CaveDraw x = TestKit.loaded("D13911111119;15;14;");
        bestIs(x, 1, 5);
        bestIs(x, 1, 2, 9);
        bestIs(x, 0, 1, 2, 10);
        bestIs(x, 0, 0, 0, 0, 12);
        TestKit.equal(x.totalBuckets(), 0);
        // A hung drawpoint gives nothing.
        x.hang(1);
        bestIs(x, 2, 4);
        bestIs(x, 0, 2, 5);
        x.hang(0);
        bestIs(x, NONE, NONE, NONE);
        TestKit.equal(new CaveDraw().bestSequence(1, 0), NONE);
        TestKit.equal(new CaveDraw().bestSequence(4, 4), NONE);
        TestKit.fails(TestKit.ARGUMENT, () -> x.bestSequence(0, 0));
        TestKit.fails(TestKit.ARGUMENT, () -> x.bestSequence(5, 0));
        TestKit.fails(TestKit.ARGUMENT, () -> x.bestSequence(2, -1));
        TestKit.fails(TestKit.ARGUMENT, () -> x.bestSequence(2, 3));
        TestKit.fails(TestKit.ARGUMENT, () -> x.bestSequence(Integer.MIN_VALUE, Integer.MIN_VALUE));
    }

    private static void bestSequenceAmongSeveral() {
        bestIs(TestKit.loaded("D22915;15;15;15;"), 0, 1, 2, 3, 20);
        bestIs(TestKit.loaded("D22915;15;15;15;"), 0, 1, 2, 15);
        bestIs(TestKit.loaded("D12910;20;"), 0, 1, 1, 0);
        bestIs(TestKit.loaded("D1291524;24;"), 0, 0, 0, 1, 17);
        bestIs(TestKit.loaded("D12999;91;"), 0, 0, 0, 0, 36);
        bestIs(TestKit.loaded("D12999;95;"), 0, 0, 0, 27);
        StringBuilder great = new StringBuilder("D449");
        for (int p = 0; p < 16; p++) {
            great.append("9").append(p == 15 ? 4 : 3).append(';');
        }
        bestIs(TestKit.loaded(great.toString()), 15, 15, 15, 15, 16);
    }

    private static void bestSequenceAndBound() {
        // 0 may not be drawn twice before 1 follows.
        CaveDraw x = TestKit.loaded("D12199;91;");
        bestIs(x, 0, 9);
        bestIs(x, 0, 1, 10);
        bestIs(x, 0, 1, 0, 19);
        bestIs(x, 0, 1, 0, 1, 20);
        x.draw(0);
        bestIs(x, 1, 0, 10);
        bestIs(x, 1, 0, 1, 0, 20);
        // The bound counts anew in each sequence that is tried.
        CaveDraw w = TestKit.loaded("D131;91;99;");
        bestIs(w, 1, 2, 10);
        bestIs(w, 1, 2, 2, 19);
        bestIs(w, NONE, NONE, NONE, NONE, NONE);
        bestIs(TestKit.loaded("D12111;1219;"), 0, 1, 1, 12);
        bestIs(TestKit.loaded("D12110;99;"), 0, 1, 9);
        // 0 is ready only behind 2, and 1 may go first.
        CaveDraw v = TestKit.loaded("D2211019;1011;11;10;");
        v.draw(0);
        v.draw(1);
        v.draw(3);
        bestIs(v, 2, 0, 10);
        // A bound that stops all: 0 has drawn one more and 1 has nothing.
        CaveDraw y = TestKit.loaded("D12199;;");
        bestIs(y, 0, 9);
        bestIs(y, NONE, NONE, NONE);
    }

    private static void origins() {
        CaveDraw x = TestKit.loaded("D2222517;1517;1515;1015;");
        TestKit.equal(x.origins(1, 5), 1 + 2 + 4);
        TestKit.equal(x.origins(2, 55), 1 + 4);
        TestKit.equal(x.origins(2, 57), 2);
        TestKit.equal(x.origins(3, 557), 1);
        TestKit.equal(x.origins(3, 555), 0);
        // Leading zeros are grades.
        TestKit.equal(x.origins(1, 0), 8);
        TestKit.equal(x.origins(2, 5), 8);
        TestKit.equal(x.origins(3, 5), 0);
        // Only the next buckets count, and a hung drawpoint counts too.
        x.draw(0);
        x.hang(0);
        TestKit.equal(x.origins(2, 57), 1 + 2);
        TestKit.equal(new CaveDraw().origins(1, 0), 0);
        CaveDraw y = TestKit.loaded("D13299;90;80;");
        TestKit.equal(y.origins(9, 999999999), 1);
        TestKit.equal(y.origins(9, 0), 2);
        TestKit.equal(y.origins(8, 0), 2 + 4);
        CaveDraw great = TestKit.loaded("D44217;;;;;;;;;;;;;;;17;");
        TestKit.equal(great.origins(1, 7), 1 + (1 << 15));
    }

    private static void originsRefuses() {
        CaveDraw x = TestKit.loaded("D11299;");
        TestKit.fails(TestKit.ARGUMENT, () -> x.origins(0, 0));
        TestKit.fails(TestKit.ARGUMENT, () -> x.origins(10, 0));
        TestKit.fails(TestKit.ARGUMENT, () -> x.origins(-1, 5));
        TestKit.fails(TestKit.ARGUMENT, () -> x.origins(1, -1));
        TestKit.fails(TestKit.ARGUMENT, () -> x.origins(1, 10));
        TestKit.fails(TestKit.ARGUMENT, () -> x.origins(8, 100000000));
        TestKit.fails(TestKit.ARGUMENT, () -> x.origins(9, 1000000000));
        TestKit.fails(TestKit.ARGUMENT, () -> x.origins(9, Integer.MAX_VALUE));
        TestKit.fails(TestKit.ARGUMENT, () -> x.origins(9, Integer.MIN_VALUE));
        TestKit.equal(x.origins(1, 9), 1);
    }

    private static void questionsChangeNothing() {
        CaveDraw x = TestKit.loaded("D22231;4519;28;;");
        x.draw(0);
        x.hang(3);
        int sum = 0;
        for (int round = 0; round < 2; round++) {
            int before = sum;
            sum = x.nextByOrder() + x.orderAhead(3) + x.bestSequence(3, 3) + x.origins(1, 5)
                    + x.runScript(4, 1011_6005_2000_3030L) + x.simulate(7, 50)
                    + x.bucketsFor(1, 2) + x.mostFrom(1) + x.slack(1) + x.blockers(1)
                    + x.bucketsToWaste(1, 9) + (x.isReady(1) ? 1 : 0);
            TestKit.equal(round == 0 || sum == before, true);
        }
        TestKit.equal(x.totalBuckets(), 1);
        TestKit.equal(x.isHung(3), true);
        TestKit.equal(x.isHung(0), false);
        TestKit.equal(x.undo(), 1);
        TestKit.equal(x.isHung(3), false);
    }

    // ---- scripts, random hang-ups

    private static void scriptDraws() {
        CaveDraw x = TestKit.loaded("D12391;92;");
        TestKit.equal(x.runScript(1, 1003), NONE);
        TestKit.equal(x.runScript(1, 1004), 0);
        TestKit.equal(x.runScript(2, 1003_1011L), NONE);
        TestKit.equal(x.runScript(3, 1003_1011_1001L), NONE);
        TestKit.equal(x.runScript(3, 1003_1011_1002L), 2);
        TestKit.equal(x.runScript(1, 1000), 0);
        TestKit.equal(x.runScript(1, 1020), 0);
        TestKit.equal(x.runScript(1, 1021), 0);
        TestKit.equal(x.totalBuckets(), 0);
        CaveDraw y = TestKit.loaded("D111919191919191;");
        TestKit.equal(y.runScript(4, 1009_1009_1009_1009L), NONE);
    }

    private static void scriptHangs() {
        CaveDraw x = TestKit.loaded("D12391;92;");
        TestKit.equal(x.runScript(2, 2000_1001L), 1);
        TestKit.equal(x.runScript(2, 2000_2000L), 1);
        TestKit.equal(x.runScript(3, 2000_3000_1001L), NONE);
        TestKit.equal(x.runScript(1, 3000), 0);
        TestKit.equal(x.runScript(2, 2000_3010L), 1);
        TestKit.equal(x.runScript(1, 2001), 0);
        TestKit.equal(x.runScript(2, 2000_3001L), 1);
        x.hang(1);
        TestKit.equal(x.runScript(1, 2010), 0);
        TestKit.equal(x.runScript(2, 3010_1011L), NONE);
        TestKit.equal(x.isHung(1), true);
        TestKit.equal(x.runScript(1, 2020), 0);
        TestKit.equal(x.runScript(1, 3020), 0);
    }

    private static void scriptTests() {
        CaveDraw x = TestKit.loaded("D12391;24;");
        TestKit.equal(x.runScript(1, 4003), NONE);
        TestKit.equal(x.runScript(1, 4002), 0);
        TestKit.equal(x.runScript(1, 4004), 0);
        TestKit.equal(x.runScript(2, 1001_4002L), NONE);
        TestKit.equal(x.runScript(2, 2000_4000L), NONE);
        TestKit.equal(x.runScript(1, 5014), NONE);
        TestKit.equal(x.runScript(1, 5013), NONE);
        TestKit.equal(x.runScript(1, 5015), 0);
        TestKit.equal(x.runScript(2, 2010_5014L), NONE);
        TestKit.equal(x.runScript(2, 1012_5010L), 1);
        TestKit.equal(x.runScript(1, 4020), 0);
        TestKit.equal(x.runScript(1, 5020), 0);
        // Two digits name the drawpoint.
        CaveDraw great = TestKit.loaded("D341;;;;;;;;;;;15;");
        TestKit.equal(great.runScript(4, 5115_4111_1111_4110L), NONE);
        TestKit.equal(great.runScript(1, 4120), 0);
    }

    private static void scriptByOrder() {
        CaveDraw x = TestKit.loaded("D12331;32;");
        TestKit.equal(x.runScript(1, 6006), NONE);
        TestKit.equal(x.runScript(1, 6007), 0);
        TestKit.equal(x.runScript(1, 6001), NONE);
        TestKit.equal(x.runScript(1, 6000), 0);
        TestKit.equal(x.runScript(1, 6101), 0);
        TestKit.equal(x.runScript(1, 6901), 0);
        TestKit.equal(x.runScript(2, 6002_4001L), 1);
        TestKit.equal(x.runScript(2, 6001_4012L), NONE);
        CaveDraw y = TestKit.loaded("D219919191919191;919191919191;");
        TestKit.equal(y.runScript(1, 6099), NONE);
        TestKit.equal(y.runScript(2, 6099_6009L), NONE);
        TestKit.equal(y.runScript(2, 6099_6010L), 1);
    }

    private static void scriptFails() {
        CaveDraw x = TestKit.loaded("D12391;92;");
        TestKit.equal(x.runScript(1, 0), 0);
        TestKit.equal(x.runScript(1, 1), 0);
        TestKit.equal(x.runScript(1, 7000), 0);
        TestKit.equal(x.runScript(1, 8000), 0);
        TestKit.equal(x.runScript(1, 9999), 0);
        // The first command is the highest group, and a missing group is 0000.
        TestKit.equal(x.runScript(2, 1001), 0);
        TestKit.equal(x.runScript(2, 1001_0000L), 1);
        TestKit.equal(x.runScript(4, 1001_1001_1001_0000L), 3);
        TestKit.equal(x.runScript(4, 1001_1001_0000_1001L), 2);
    }

    private static void scriptRefuses() {
        CaveDraw x = TestKit.loaded("D12391;92;");
        TestKit.fails(TestKit.ARGUMENT, () -> x.runScript(0, 0));
        TestKit.fails(TestKit.ARGUMENT, () -> x.runScript(5, 0));
        TestKit.fails(TestKit.ARGUMENT, () -> x.runScript(-1, 1001));
        TestKit.fails(TestKit.ARGUMENT, () -> x.runScript(1, -1));
        TestKit.fails(TestKit.ARGUMENT, () -> x.runScript(1, 10000));
        TestKit.fails(TestKit.ARGUMENT, () -> x.runScript(3, 1000000000000L));
        TestKit.fails(TestKit.ARGUMENT, () -> x.runScript(4, 10000000000000000L));
        TestKit.fails(TestKit.ARGUMENT, () -> x.runScript(4, Long.MAX_VALUE));
        TestKit.fails(TestKit.ARGUMENT, () -> x.runScript(4, Long.MIN_VALUE));
        TestKit.equal(x.runScript(4, 9999999999999999L), 0);
    }

    /** The rounds of promise 33, played with the calls of the face on a cave of its own. */
    private static int played(CaveDraw x, long seed, int m) {
        int before = x.totalGrade();
        long number = seed;
        for (int round = 0; round < m; round++) {
            number = number * 6364136223846793005L + 1442695040888963407L;
            int r = (int) (number >>> 33);
            if (r % 4 == 0) {
                int p = r / 4 % x.pointCount();
                if (x.isHung(p)) {
                    x.release(p);
                } else {
                    x.hang(p);
                }
            }
            x.drawByOrder(1);
        }
        return x.totalGrade() - before;
    }

    private static void simulate() {
        String[] texts = {"D2329193;9594;35;9298;91;96;", "D111919293949596;",
            "D441;15;;;;;;;;;;;;;;;"};
        for (String text : texts) {
            for (int m = 1; m <= 100; m += 33) {
                CaveDraw x = TestKit.loaded(text);
                x.drawByOrder(2);
                CaveDraw y = TestKit.loaded(text);
                y.drawByOrder(2);
                TestKit.equal(x.simulate(12345L + m, m), played(y, 12345L + m, m));
                TestKit.equal(x.hang(0), 1);
                TestKit.equal(x.undo(), 1);
            }
        }
        CaveDraw x = new CaveDraw();
        TestKit.equal(x.simulate(1, 1), 0);
        TestKit.fails(TestKit.ARGUMENT, () -> x.simulate(1, 0));
        TestKit.fails(TestKit.ARGUMENT, () -> x.simulate(1, 101));
        TestKit.fails(TestKit.ARGUMENT, () -> x.simulate(1, Integer.MIN_VALUE));
    }

    private static void simulateSeed() {
        long[] seeds = {0, 1, -1, Long.MIN_VALUE, Long.MAX_VALUE, 6364136223846793005L};
        String text = "D229919293949596;919293949596;919293949596;919293949596;";
        for (long seed : seeds) {
            TestKit.equal(TestKit.loaded(text).simulate(seed, 100),
                    played(TestKit.loaded(text), seed, 100));
        }
    }

    // ---- save slots

    private static void save() {
        CaveDraw x = TestKit.loaded("D111919293;");
        TestKit.equal(x.save(0), 0);
        x.draw(0);
        x.draw(0);
        TestKit.equal(x.save(1), 2);
        x.draw(0);
        // A slot is filled again, and keeps what it holds while the state goes on.
        TestKit.equal(x.save(1), 3);
        x.draw(0);
        TestKit.equal(x.undo(), 3);
        TestKit.equal(x.restore(1), 3);
        TestKit.equal(x.restore(0), 0);
        TestKit.fails(TestKit.INDEX, () -> x.save(-1));
        TestKit.fails(TestKit.INDEX, () -> x.save(2));
        TestKit.fails(TestKit.INDEX, () -> x.save(Integer.MAX_VALUE));
    }

    private static void restore() {
        CaveDraw x = TestKit.loaded("D12359;34;");
        x.draw(0);
        x.hang(1);
        x.save(0);
        x.draw(0);
        x.release(1);
        x.setBound(9);
        x.addSlice(1, 1, 1);
        TestKit.equal(x.restore(0), 1);
        TestKit.equal(x.drawn(0), 1);
        TestKit.equal(x.remaining(0), 4);
        TestKit.equal(x.isHung(1), true);
        TestKit.equal(x.bound(), 3);
        TestKit.equal(x.sliceCount(1), 1);
        TestKit.equal(x.totalGrade(), 9);
        TestKit.fails(TestKit.STATE, x::undo);
        // The slot keeps its state.
        x.draw(0);
        TestKit.equal(x.undo(), 0);
        x.draw(0);
        TestKit.equal(x.restore(0), 1);
        TestKit.equal(x.drawn(0), 1);
        TestKit.equal(x.clearText(), 10);
    }

    private static void restoreRefuses() {
        CaveDraw x = new CaveDraw();
        TestKit.fails(TestKit.STATE, () -> x.restore(0));
        x.save(0);
        x.hang(0);
        TestKit.fails(TestKit.STATE, () -> x.restore(1));
        TestKit.fails(TestKit.INDEX, () -> x.restore(2));
        TestKit.fails(TestKit.INDEX, () -> x.restore(-1));
        TestKit.equal(x.isHung(0), true);
        TestKit.equal(x.undo(), 0);
        TestKit.equal(x.restore(0), 0);
    }
}
