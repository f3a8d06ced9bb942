import java.util.Map;
import java.util.Set;
import java.util.TreeMap;
import java.util.TreeSet;

/**
 * Tests of the sentences of the document. The name of a test tells the promise (or the part of the
 * document), the sentence, and the case of it that is tested.
 */
abstract class BoundarySuite {
    static final int NONE = CaveDraw.NONE;
    static final Class<? extends Exception> INDEX = TestKit.INDEX;
    static final Class<? extends Exception> ARGUMENT = TestKit.ARGUMENT;
    static final Class<? extends Exception> STATE = TestKit.STATE;
    static final String NO_POINT =
            "Throws `IndexOutOfBoundsException` if there is no such drawpoint";

    interface Start {
        CaveDraw make();
    }

    interface Use {
        void on(CaveDraw x);
    }

    interface OfPoint {
        void on(CaveDraw x, int p);
    }

    private final TestKit kit = new TestKit();
    private final Map<String, Set<String>> quoted = new TreeMap<>();
    private boolean isListing;
    private String promise = "";
    private String sentence = "";

    abstract void run();

    final void play() {
        run();
        kit.finish();
    }

    final void promise(String words) {
        promise = words;
    }

    final void sentence(String words) {
        sentence = words;
    }

    final void holds(String what, TestKit.Body body) {
        if (isListing) {
            quoted.computeIfAbsent(promise, p -> new TreeSet<>()).add(sentence);
        } else {
            kit.test(promise + " | " + sentence + " | " + what, body);
        }
    }

    /** The sentences that have a test here, by their promise; no test is run. */
    final Map<String, Set<String>> quotes() {
        isListing = true;
        run();
        isListing = false;
        return quoted;
    }

    /** Two tests: that the call throws what is due, and that it changes nothing. */
    final void refuses(String call, Class<? extends Exception> due, Start start, Use use) {
        holds(call + " throws " + due.getSimpleName(), () -> {
            CaveDraw x = start.make();
            TestKit.fails(due, () -> use.on(x));
        });
        changesNothing(call, start, use);
    }

    final void changesNothing(String call, Start start, Use use) {
        holds(call + " changes nothing", () -> {
            for (Looks.Look look : Looks.ALL) {
                CaveDraw x = start.make();
                useOn(x, use);
                equal(look.at(x), look.at(start.make()));
            }
        });
    }

    private static void useOn(CaveDraw x, Use use) {
        try {
            use.on(x);
        } catch (IllegalArgumentException | IllegalStateException | IndexOutOfBoundsException e) {
            // Which exception it is, is the matter of another test.
        }
    }

    /** The call with drawpoints that do not exist: just outside the grid, and far away. */
    final void refusesUnknownPoints(String method, OfPoint call) {
        sentence(NO_POINT);
        refuses(method + " of -1", INDEX, BoundarySuite::used, x -> call.on(x, -1));
        refuses(method + " of 4 in a grid of 4", INDEX, BoundarySuite::used, x -> call.on(x, 4));
        refuses(method + " of 1 in a grid of 1", INDEX, BoundarySuite::single, x -> call.on(x, 1));
        refuses(method + " of 16 in a grid of 16", INDEX, BoundarySuite::great,
                x -> call.on(x, 16));
        refuses(method + " of the smallest int", INDEX, BoundarySuite::used,
                x -> call.on(x, Integer.MIN_VALUE));
        refuses(method + " of the greatest int", INDEX, BoundarySuite::used,
                x -> call.on(x, Integer.MAX_VALUE));
    }

    // ---- objects to begin with

    /** Four drawpoints, with something in every part: a text, remembered states, both slots. */
    static CaveDraw used() {
        CaveDraw x = loaded("D2231245;31;2819;37;");
        x.draw(0);
        x.save(0);
        x.draw(1);
        x.hang(3);
        x.save(1);
        x.drawByOrder(2);
        x.setBound(4);
        return x;
    }

    /** One drawpoint, a bucket drawn and another left. */
    static CaveDraw single() {
        CaveDraw x = loaded("D11125;");
        x.draw(0);
        x.save(1);
        return x;
    }

    /** Sixteen drawpoints, the first and the last of them drawn, and the last one hung. */
    static CaveDraw great() {
        CaveDraw x = loaded(alike(4, 4, 2, "1112"));
        x.draw(0);
        x.draw(15);
        x.save(0);
        x.hang(15);
        return x;
    }

    // ---- what the suites share

    static void equal(Object got, Object want) {
        TestKit.equal(got, want);
    }

    static void fails(Class<? extends Exception> due, TestKit.Body call) {
        TestKit.fails(due, call);
    }

    static CaveDraw loaded(String text) {
        return TestKit.loaded(text);
    }

    /** An object with the text and nothing loaded. */
    static CaveDraw with(String text) {
        CaveDraw x = new CaveDraw();
        TestKit.put(x, text);
        return x;
    }

    /** A cave text whose columns all have the same slices. */
    static String alike(int rows, int columns, int bound, String slices) {
        return "D" + rows + columns + bound + (slices + ";").repeat(rows * columns);
    }

    /** One drawpoint with the greatest column: 6 slices of 9 buckets of the grades 1 to 6. */
    static CaveDraw greatestColumn() {
        return loaded("D119919293949596;");
    }

    static void drawTimes(CaveDraw x, int p, int n) {
        TestKit.drawTimes(x, p, n);
    }
}
