/** The section EXCEPTIONS, the constant, and the number of calls that an object is used for. */
public final class ExceptionBoundaryTests extends BoundarySuite {
    private static final OfPoint[] WITH_POINT = {
        (x, p) -> x.drawn(p), (x, p) -> x.remaining(p), (x, p) -> x.sliceCount(p),
        (x, p) -> x.gradeAhead(p, 0), (x, p) -> x.isHung(p), (x, p) -> x.draw(p),
        (x, p) -> x.hang(p), (x, p) -> x.release(p), (x, p) -> x.addSlice(p, 1, 1),
        (x, p) -> x.isReady(p), (x, p) -> x.blockers(p), (x, p) -> x.slack(p),
        (x, p) -> x.bucketsToWaste(p, 1), (x, p) -> x.bucketsFor(p, 1), (x, p) -> x.mostFrom(p)
    };

    private static final Use[] OUT_OF_RANGE = {
        x -> x.append(-1), x -> x.append(256), x -> x.gradeAhead(0, -1),
        x -> x.gradeAhead(0, 100), x -> x.drawByOrder(0), x -> x.drawByOrder(100),
        x -> x.addSlice(0, 0, 0), x -> x.addSlice(0, 10, 0), x -> x.addSlice(0, 1, -1),
        x -> x.addSlice(0, 1, 10), x -> x.setBound(0), x -> x.setBound(10),
        x -> x.orderAhead(-1), x -> x.orderAhead(100), x -> x.bucketsToWaste(0, 0),
        x -> x.bucketsToWaste(0, 10), x -> x.bucketsFor(0, 0), x -> x.bucketsFor(0, 55),
        x -> x.bestSequence(0, 0), x -> x.bestSequence(5, 0), x -> x.bestSequence(4, -1),
        x -> x.bestSequence(4, 5), x -> x.origins(0, 0), x -> x.origins(10, 0),
        x -> x.origins(9, -1), x -> x.origins(9, 1000000000), x -> x.runScript(0, 0),
        x -> x.runScript(5, 0), x -> x.runScript(4, -1),
        x -> x.runScript(4, 10000000000000000L), x -> x.simulate(0, 0), x -> x.simulate(0, 101)
    };

    public static void main(String[] args) {
        new ExceptionBoundaryTests().play();
    }

    @Override
    void run() {
        constant();
        lastCall();
        meanings();
        refusedInARow();
        pointBeforeArgument();
        pointBeforeState();
        argumentBeforeState();
        allThree();
    }

    private void constant() {
        promise("The constants");
        sentence("`NONE = -9`: There is no such result.");
        holds("it is -9", () -> equal(CaveDraw.NONE, -9));
        holds("it is what the methods answer", () -> {
            CaveDraw x = loaded("D11115;");
            x.draw(0);
            int[] answers = {x.errorPosition(), x.gradeAhead(0, 0), x.nextByOrder(),
                x.orderAhead(0), x.bucketsToWaste(0, 1), x.bucketsFor(0, 1),
                x.bestSequence(1, 0), x.bestSequence(1, 1), x.runScript(1, 4000)};
            for (int answer : answers) {
                equal(answer, -9);
            }
        });
    }

    private void lastCall() {
        promise("What it is");
        sentence("An object is used for at most 512 calls after it has been made; what later calls"
                + " answer is free.");
        holds("the 512th call answers as it should", () -> {
            CaveDraw x = new CaveDraw();
            for (int call = 1; call <= 511; call++) {
                equal(x.setBound(1 + call % 9), call == 1 ? 2 : 1 + (call - 1) % 9);
            }
            equal(x.undo(), 13);
        });
        holds("the 512th call draws", () -> {
            CaveDraw x = new CaveDraw();
            for (int pair = 1; pair <= 255; pair++) {
                x.hang(0);
                x.release(0);
            }
            equal(x.addSlice(0, 1, 7), 1);
            equal(x.draw(0), 7);
        });
        holds("more than 512 buckets can be drawn of one object", () -> {
            CaveDraw x = loaded("D119999999999999;");
            int drawn = 0;
            for (int round = 0; round < 60; round++) {
                drawn += x.drawByOrder(9);
                x.addSlice(0, 9, 9);
            }
            equal(drawn, 540);
            equal(x.drawn(0), 540);
            equal(x.totalBuckets(), 540);
            equal(x.totalGrade(), 540 * 9);
        });
    }

    // ---- the section EXCEPTIONS

    private void meanings() {
        promise("EXCEPTIONS");
        sentence("IndexOutOfBoundsException means that a drawpoint does not exist, or that a slot"
                + " is not 0 or 1.");
        holds("every method with a drawpoint", () -> {
            CaveDraw x = used();
            for (OfPoint call : WITH_POINT) {
                fails(INDEX, () -> call.on(x, -1));
                fails(INDEX, () -> call.on(x, 4));
            }
        });
        holds("every method with a slot", () -> {
            for (int slot : new int[] {-1, 2}) {
                fails(INDEX, () -> used().save(slot));
                fails(INDEX, () -> used().restore(slot));
            }
        });
        sentence("IllegalArgumentException means that another argument is out of its range.");
        holds("every method with such an argument, one below and one above", () -> {
            CaveDraw x = used();
            for (Use call : OUT_OF_RANGE) {
                fails(ARGUMENT, () -> call.on(x));
            }
        });
        sentence("IllegalStateException means that the call is not possible now, as the method"
                + " says.");
        holds("the same calls are possible at another time", () -> {
            CaveDraw x = loaded("D12115;;");
            fails(STATE, () -> x.release(0));
            fails(STATE, x::undo);
            fails(STATE, () -> x.restore(0));
            x.hang(0);
            fails(STATE, () -> x.hang(0));
            fails(STATE, () -> x.draw(0));
            equal(x.release(0), 0);
            equal(x.hang(0), 1);
            equal(x.undo(), 2);
            equal(x.draw(0), 5);
            equal(x.save(0), 1);
            equal(x.restore(0), 1);
        });
    }

    private void refusedInARow() {
        sentence("A call that throws an exception changes nothing.");
        changesNothing("every call with an argument out of its range, one behind the other",
                BoundarySuite::used, x -> {
                    for (Use call : OUT_OF_RANGE) {
                        fails(ARGUMENT, () -> call.on(x));
                    }
                });
        changesNothing("every call with a drawpoint that does not exist, one behind the other",
                BoundarySuite::used, x -> {
                    for (OfPoint call : WITH_POINT) {
                        fails(INDEX, () -> call.on(x, 4));
                    }
                });
        changesNothing("every call that is not possible now, one behind the other",
                ExceptionBoundaryTests::nothingIsPossible, x -> {
                    fails(STATE, () -> x.append(';'));
                    fails(STATE, x::load);
                    fails(STATE, () -> x.draw(0));
                    fails(STATE, () -> x.hang(0));
                    fails(STATE, () -> x.release(1));
                    fails(STATE, () -> x.addSlice(0, 1, 1));
                    fails(STATE, () -> x.setBound(1));
                    fails(STATE, x::undo);
                    fails(STATE, () -> x.restore(1));
                });
        holds("a question behind a refused one answers as before", () -> {
            CaveDraw x = loaded("D12292;95;");
            equal(x.bestSequence(2, 0), 1);
            fails(ARGUMENT, () -> x.bestSequence(5, 0));
            equal(x.bestSequence(2, 0), 1);
            equal(x.origins(1, 5), 2);
            fails(ARGUMENT, () -> x.origins(1, 55));
            equal(x.origins(1, 5), 2);
            equal(x.runScript(1, 4002), NONE);
            fails(ARGUMENT, () -> x.runScript(1, 40024002));
            equal(x.runScript(1, 4002), NONE);
        });
    }

    /** A full bad text, a hung full column, neighbours 2 apart, no state and no slot 1. */
    private static CaveDraw nothingIsPossible() {
        CaveDraw x = loaded("D122313233343536;15;");
        drawTimes(x, 0, 2);
        x.hang(0);
        x.save(0);
        x.restore(0);
        while (x.append(';') < 120) {
            continue;
        }
        return x;
    }

    private void pointBeforeArgument() {
        sentence("If several exceptions apply to a call, the one that its description names first"
                + " is thrown.");
        refuses("gradeAhead(4, 100)", INDEX, BoundarySuite::used, x -> x.gradeAhead(4, 100));
        refuses("gradeAhead(-1, -1)", INDEX, BoundarySuite::used, x -> x.gradeAhead(-1, -1));
        refuses("bucketsToWaste(4, 0)", INDEX, BoundarySuite::used, x -> x.bucketsToWaste(4, 0));
        refuses("bucketsToWaste(-1, 10)", INDEX, BoundarySuite::used,
                x -> x.bucketsToWaste(-1, 10));
        refuses("bucketsFor(4, 0)", INDEX, BoundarySuite::used, x -> x.bucketsFor(4, 0));
        refuses("bucketsFor(-1, 55)", INDEX, BoundarySuite::used, x -> x.bucketsFor(-1, 55));
        refuses("addSlice(4, 0, 5)", INDEX, BoundarySuite::used, x -> x.addSlice(4, 0, 5));
        refuses("addSlice(-1, 5, 10)", INDEX, BoundarySuite::used, x -> x.addSlice(-1, 5, 10));
    }

    private void pointBeforeState() {
        // No state is one where these calls are possible.
        refuses("draw(4) while nothing is ready", INDEX, CaveDraw::new, x -> x.draw(4));
        refuses("hang(1) while all is hung", INDEX, ExceptionBoundaryTests::singleHung,
                x -> x.hang(1));
        refuses("release(4) while nothing is hung", INDEX, CaveDraw::new, x -> x.release(4));
        refuses("addSlice(1, 1, 1) while all columns are full", INDEX,
                () -> loaded("D111111213141516;"), x -> x.addSlice(1, 1, 1));
        refuses("restore(2) while the slots are empty", INDEX, CaveDraw::new, x -> x.restore(2));
        refuses("restore(-1) while the slots are empty", INDEX, CaveDraw::new,
                x -> x.restore(-1));
    }

    private static CaveDraw singleHung() {
        CaveDraw x = single();
        x.hang(0);
        return x;
    }

    private void argumentBeforeState() {
        refuses("append(256) to a full text", ARGUMENT, ExceptionBoundaryTests::fullText,
                x -> x.append(256));
        refuses("append(-1) to a full text", ARGUMENT, ExceptionBoundaryTests::fullText,
                x -> x.append(-1));
        refuses("addSlice(0, 10, 5) to a full column", ARGUMENT,
                () -> loaded("D111111213141516;"), x -> x.addSlice(0, 10, 5));
        refuses("addSlice(0, 5, -1) to a full column", ARGUMENT,
                () -> loaded("D111111213141516;"), x -> x.addSlice(0, 5, -1));
        refuses("setBound(0) where two neighbours differ", ARGUMENT,
                ExceptionBoundaryTests::differing, x -> x.setBound(0));
        refuses("setBound(-1) where two neighbours differ", ARGUMENT,
                ExceptionBoundaryTests::differing, x -> x.setBound(-1));
        refuses("drawByOrder(0) while nothing is ready", ARGUMENT, CaveDraw::new,
                x -> x.drawByOrder(0));
    }

    private static CaveDraw fullText() {
        return with("D22145;31;2819;37;" + ";".repeat(102));
    }

    private static CaveDraw differing() {
        CaveDraw x = loaded("D12395;95;");
        drawTimes(x, 0, 3);
        return x;
    }

    private void allThree() {
        refuses("addSlice(1, 0, 10) while all columns are full", INDEX,
                () -> loaded("D111111213141516;"), x -> x.addSlice(1, 0, 10));
        refuses("addSlice(-1, 10, -1) while all columns are full", INDEX,
                () -> loaded("D111111213141516;"), x -> x.addSlice(-1, 10, -1));
    }
}
