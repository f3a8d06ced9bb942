/** The five examples of the document, call by call. */
public final class ExampleTests {
    public static void main(String[] args) {
        TestKit kit = new TestKit();
        kit.test("example 1", ExampleTests::twoDrawpoints);
        kit.test("example 2", ExampleTests::drawingByOrder);
        kit.test("example 3", ExampleTests::boundStops);
        kit.test("example 4", ExampleTests::hungDrawpoint);
        kit.test("example 5", ExampleTests::sequenceAndOrigins);
        kit.finish();
    }

    private static void twoDrawpoints() {
        CaveDraw x = new CaveDraw();
        int[] signs = {68, 49, 50, 49, 53, 57, 59, 51, 53, 59};
        for (int i = 0; i < signs.length; i++) {
            TestKit.equal(x.append(signs[i]), i + 1);
        }
        TestKit.equal(x.load(), 2);
        TestKit.equal(x.draw(0), 9);
        TestKit.equal(x.isReady(0), false);
        TestKit.equal(x.blockers(0), 2);
        TestKit.equal(x.bucketsFor(0, 2), 4);
        TestKit.equal(x.mostFrom(0), 3);
    }

    private static void drawingByOrder() {
        CaveDraw x = new CaveDraw();
        TestKit.equal(x.addSlice(0, 2, 7), 1);
        TestKit.equal(x.addSlice(1, 2, 3), 1);
        TestKit.equal(x.nextByOrder(), 0);
        TestKit.equal(x.drawByOrder(3), 3);
        TestKit.equal(x.totalGrade(), 17);
        TestKit.equal(x.undo(), 2);
        TestKit.equal(x.remaining(0), 2);
    }

    private static void boundStops() {
        CaveDraw x = new CaveDraw();
        TestKit.equal(x.addSlice(0, 5, 1), 1);
        TestKit.equal(x.draw(0), 1);
        TestKit.equal(x.draw(0), 1);
        TestKit.fails(TestKit.STATE, () -> x.draw(0));
        TestKit.fails(TestKit.STATE, () -> x.draw(1));
        TestKit.equal(x.drawn(0), 2);
    }

    private static void hungDrawpoint() {
        CaveDraw x = new CaveDraw();
        TestKit.equal(x.addSlice(2, 3, 4), 1);
        TestKit.equal(x.hang(2), 1);
        TestKit.equal(x.slack(2), 0);
        TestKit.fails(TestKit.STATE, () -> x.draw(2));
        TestKit.equal(x.release(2), 0);
        TestKit.equal(x.bucketsToWaste(2, 5), 0);
    }

    private static void sequenceAndOrigins() {
        CaveDraw x = new CaveDraw();
        TestKit.equal(x.addSlice(0, 1, 5), 1);
        TestKit.equal(x.addSlice(3, 1, 5), 1);
        TestKit.equal(x.bestSequence(2, 2), 10);
        TestKit.equal(x.bestSequence(2, 0), 0);
        TestKit.equal(x.origins(1, 5), 9);
    }
}
