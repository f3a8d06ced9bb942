/** The boundaries of the cave: the section GRID AND COLUMNS and promises 6 to 14. */
public final class CaveBoundaryTests extends BoundarySuite {
    public static void main(String[] args) {
        new CaveBoundaryTests().play();
    }

    @Override
    void run() {
        grid();
        neighbours();
        columns();
        drawing();
        drawnNumber();
        bound();
        hung();
        ready();
        blocks();
        slack();
        pointCountAndBound();
        numbersOfPoints();
        gradeAhead();
        isHung();
        sums();
        looking();
    }

    // ---- the section GRID AND COLUMNS

    private interface OfGrid {
        void on(int rows, int columns);
    }

    private static void everyGrid(OfGrid check) {
        for (int r = 1; r <= 4; r++) {
            for (int c = 1; c <= 4; c++) {
                check.on(r, c);
            }
        }
    }

    /** All neighbours of p, as a bit set: with the bound 1 each of them blocks a second bucket. */
    private static int neighboursOf(int rows, int columns, int p) {
        CaveDraw x = loaded(alike(rows, columns, 1, "11"));
        x.draw(p);
        return x.blockers(p);
    }

    private void grid() {
        promise("GRID AND COLUMNS");
        sentence("The grid has r rows and c columns of drawpoints, 1 to 4 each.");
        holds("all 16 grids", () ->
                everyGrid((r, c) -> equal(loaded(alike(r, c, 1, "")).pointCount(), r * c)));
        sentence("The drawpoint in row i and column j (both from 0) has the number i * c + j.");
        holds("of every grid every drawpoint has the neighbours of its row and column", () ->
                everyGrid((r, c) -> {
                    for (int i = 0; i < r; i++) {
                        for (int j = 0; j < c; j++) {
                            int due = i > 0 ? 1 << (i - 1) * c + j : 0;
                            due |= i < r - 1 ? 1 << (i + 1) * c + j : 0;
                            due |= j > 0 ? 1 << i * c + j - 1 : 0;
                            due |= j < c - 1 ? 1 << i * c + j + 1 : 0;
                            equal(neighboursOf(r, c, i * c + j), due);
                        }
                    }
                }));
        sentence("A new object has a grid of 2 rows and 2 columns with empty ore columns.");
        holds("4 drawpoints, with 0 slices each", () -> {
            CaveDraw x = new CaveDraw();
            equal(x.pointCount(), 4);
            for (int p = 0; p < 4; p++) {
                equal(x.sliceCount(p), 0);
            }
        });
    }

    private void neighbours() {
        sentence("Two drawpoints are neighbours if they are next to each other in a row or in a"
                + " column.");
        holds("a drawpoint alone has none", () -> equal(neighboursOf(1, 1, 0), 0));
        holds("a corner has two", () -> {
            equal(neighboursOf(4, 4, 0), (1 << 1) + (1 << 4));
            equal(neighboursOf(4, 4, 3), (1 << 2) + (1 << 7));
            equal(neighboursOf(4, 4, 12), (1 << 8) + (1 << 13));
            equal(neighboursOf(4, 4, 15), (1 << 11) + (1 << 14));
        });
        holds("a side has three", () -> {
            equal(neighboursOf(4, 4, 1), (1 << 0) + (1 << 2) + (1 << 5));
            equal(neighboursOf(4, 4, 11), (1 << 7) + (1 << 10) + (1 << 15));
        });
        holds("the middle has four", () ->
                equal(neighboursOf(3, 3, 4), (1 << 1) + (1 << 3) + (1 << 5) + (1 << 7)));
        holds("the end of a row and the beginning of the next are none", () -> {
            equal(neighboursOf(2, 3, 2) & (1 << 3), 0);
            equal(neighboursOf(2, 3, 3) & (1 << 2), 0);
        });
        holds("the two ends of a row are none", () -> {
            equal(neighboursOf(1, 4, 0), 1 << 1);
            equal(neighboursOf(1, 4, 3), 1 << 2);
        });
        holds("the two ends of a column are none", () -> {
            equal(neighboursOf(4, 1, 0), 1 << 1);
            equal(neighboursOf(4, 1, 3), 1 << 2);
        });
        holds("a drawpoint across the corner is none", () -> {
            equal(neighboursOf(2, 2, 0), 2 + 4);
            equal(neighboursOf(2, 2, 1), 1 + 8);
        });
    }

    private void columns() {
        sentence("Above each drawpoint stands an ore column: a sequence of at most 6 slices, the"
                + " lowest one first.");
        holds("six slices one by one", () -> {
            CaveDraw x = new CaveDraw();
            for (int s = 1; s <= 6; s++) {
                equal(x.addSlice(3, 1, s), s);
            }
            equal(x.sliceCount(3), 6);
        });
        holds("the first slice of the text is drawn first, the sixth last", () -> {
            CaveDraw x = loaded("D111111213141516;");
            for (int grade = 1; grade <= 6; grade++) {
                equal(x.draw(0), grade);
            }
        });
        holds("the first slice that was added is drawn first", () -> {
            CaveDraw x = loaded("D111;");
            x.addSlice(0, 1, 8);
            x.addSlice(0, 1, 9);
            equal(x.draw(0), 8);
            equal(x.draw(0), 9);
        });
        sentence("A slice has a number of buckets, 1 to 9, and a grade, 0 to 9.");
        holds("all 90 slices", () -> {
            for (int buckets = 1; buckets <= 9; buckets++) {
                for (int grade = 0; grade <= 9; grade++) {
                    CaveDraw x = new CaveDraw();
                    x.addSlice(0, buckets, grade);
                    equal(x.remaining(0), buckets);
                    equal(x.gradeAhead(0, buckets - 1), grade);
                    equal(x.gradeAhead(0, buckets), NONE);
                }
            }
        });
    }

    private void drawing() {
        sentence("Drawing a bucket from a drawpoint removes one bucket from the lowest slice of its"
                + " column; a slice without buckets vanishes.");
        holds("a slice of one bucket vanishes", () -> {
            CaveDraw x = loaded("D1111129;");
            x.draw(0);
            equal(Looks.cave(x), "1 points, bound 1, drawn 1/1 1:1/99");
        });
        holds("a slice of two buckets stays", () -> {
            CaveDraw x = loaded("D1112119;");
            x.draw(0);
            equal(Looks.cave(x), "1 points, bound 1, drawn 1/1 1:2/19");
        });
        holds("a slice of nine buckets vanishes with its ninth", () -> {
            CaveDraw x = loaded("D1119118;");
            drawTimes(x, 0, 8);
            equal(x.sliceCount(0), 2);
            x.draw(0);
            equal(x.sliceCount(0), 1);
        });
        holds("the last slice leaves an empty column", () -> {
            CaveDraw x = loaded("D11115;");
            x.draw(0);
            equal(Looks.cave(x), "1 points, bound 1, drawn 1/5 1:0/");
        });
        holds("the lowest of six leaves five in their order", () -> {
            CaveDraw x = loaded("D111112233445566;");
            x.draw(0);
            equal(Looks.cave(x), "1 points, bound 1, drawn 1/1 1:5/22333444455555666666");
        });
        holds("the columns before and behind keep theirs", () -> {
            CaveDraw x = loaded("D139111213141516;212223242526;313233343536;");
            drawTimes(x, 1, 3);
            equal(x.sliceCount(0) + " " + x.sliceCount(1) + " " + x.sliceCount(2), "6 5 6");
            equal(x.remaining(0) + " " + x.remaining(1) + " " + x.remaining(2), "6 9 18");
            equal(x.gradeAhead(0, 0) + " " + x.gradeAhead(0, 5), "1 6");
            equal(x.gradeAhead(2, 0) + " " + x.gradeAhead(2, 17), "1 6");
        });
        holds("a column drawn empty can be piled up and drawn again", () -> {
            CaveDraw x = loaded("D11115;");
            x.draw(0);
            x.addSlice(0, 1, 3);
            equal(x.draw(0), 3);
            equal(x.sliceCount(0), 0);
        });
        sentence("The grade of a bucket is that of its slice.");
        holds("the last bucket of a slice and the first of the next", () -> {
            CaveDraw x = loaded("D11127;");
            x.addSlice(0, 1, 0);
            equal(x.draw(0) + " " + x.draw(0) + " " + x.draw(0), "7 7 0");
        });
        holds("the first and the last bucket of the greatest column", () -> {
            CaveDraw x = greatestColumn();
            equal(x.draw(0), 1);
            x.drawByOrder(52);
            equal(x.draw(0), 6);
        });
    }

    private void drawnNumber() {
        sentence("The drawn number of a drawpoint is the number of buckets that were drawn from"
                + " it.");
        holds("0 at first", () -> equal(new CaveDraw().drawn(3), 0));
        holds("54 of a whole column", () -> {
            CaveDraw x = greatestColumn();
            equal(x.drawByOrder(99), 54);
            equal(x.drawn(0), 54);
        });
        holds("it grows beyond 54, and beyond 127 and 255", () -> {
            CaveDraw x = greatestColumn();
            for (int round = 1; round <= 30; round++) {
                x.drawByOrder(9);
                x.addSlice(0, 9, 1);
                equal(x.drawn(0), 9 * round);
            }
        });
        holds("a new slice and a hanging leave it", () -> {
            CaveDraw x = loaded("D11125;");
            x.draw(0);
            x.addSlice(0, 9, 9);
            x.hang(0);
            x.release(0);
            equal(x.drawn(0), 1);
        });
    }

    private void bound() {
        sentence("The bound is an integer from 1 to 9, 2 at first.");
        holds("2 at first", () -> equal(new CaveDraw().bound(), 2));
        holds("1 and 9 and all between", () -> {
            CaveDraw x = new CaveDraw();
            for (int b = 1; b <= 9; b++) {
                x.setBound(b);
                equal(x.bound(), b);
            }
        });
        sentence("The drawn numbers of two neighbours must not differ by more than the bound.");
        holds("for every bound they differ by just as much", () -> {
            for (int b = 1; b <= 9; b++) {
                CaveDraw x = loaded(alike(1, 2, b, "9999"));
                drawTimes(x, 0, b);
                fails(STATE, () -> x.draw(0));
                // Now the other one may pass it by as much.
                drawTimes(x, 1, 2 * b);
                fails(STATE, () -> x.draw(1));
                equal(x.drawn(0) + " " + x.drawn(1), b + " " + 2 * b);
            }
        });
        holds("two that are no neighbours differ by more", () -> {
            CaveDraw x = loaded(alike(1, 3, 1, "95"));
            x.draw(0);
            x.draw(1);
            x.draw(0);
            equal(x.drawn(0) - x.drawn(2), 2);
        });
        holds("a drawpoint without neighbours has no bound", () -> {
            CaveDraw x = loaded("D11199;");
            drawTimes(x, 0, 9);
            equal(x.drawn(0), 9);
        });
    }

    private void hung() {
        sentence("A drawpoint can be hung (blocked); at first none is.");
        holds("none of a new object", () -> {
            CaveDraw x = new CaveDraw();
            for (int p = 0; p < 4; p++) {
                equal(x.isHung(p), false);
            }
        });
        holds("all 16 can be", () -> {
            CaveDraw x = loaded(alike(4, 4, 1, ""));
            for (int p = 0; p < 16; p++) {
                x.hang(p);
            }
            for (int p = 0; p < 16; p++) {
                equal(x.isHung(p), true);
            }
        });
        sentence("Nothing can be drawn from a hung drawpoint, but its drawn number still counts for"
                + " its neighbours.");
        holds("a hung drawpoint gives nothing, and again when it is released", () -> {
            CaveDraw x = loaded("D11125;");
            x.hang(0);
            fails(STATE, () -> x.draw(0));
            equal(x.drawByOrder(9), 0);
            x.release(0);
            equal(x.draw(0), 5);
        });
        holds("a hung drawpoint blocks its neighbour", () -> {
            CaveDraw x = loaded(alike(1, 2, 1, "95"));
            x.hang(1);
            x.draw(0);
            fails(STATE, () -> x.draw(0));
            equal(x.blockers(0), 2);
        });
        holds("what was drawn from it before it hung lets its neighbour draw", () -> {
            CaveDraw x = loaded(alike(1, 2, 1, "95"));
            x.draw(1);
            x.hang(1);
            equal(x.slack(0), 2);
            drawTimes(x, 0, 2);
        });
    }

    private void ready() {
        sentence("A drawpoint is ready if it is not hung, its column is not empty, and its drawn"
                + " number plus 1 minus the drawn number of each of its neighbours is at most the"
                + " bound.");
        holds("just the bound is ready, one more is not", () -> {
            for (int b = 1; b <= 9; b++) {
                CaveDraw x = loaded(alike(1, 2, b, "9999"));
                drawTimes(x, 0, b - 1);
                equal(x.isReady(0), true);
                x.draw(0);
                equal(x.isReady(0), false);
            }
        });
        holds("one bucket is enough, none is not", () -> {
            CaveDraw x = loaded("D11910;");
            equal(x.isReady(0), true);
            x.draw(0);
            equal(x.isReady(0), false);
        });
        holds("hung is not ready, released is", () -> {
            CaveDraw x = loaded("D11910;");
            x.hang(0);
            equal(x.isReady(0), false);
            x.release(0);
            equal(x.isReady(0), true);
        });
        holds("each of four neighbours alone is enough to hinder it", () -> {
            int[] around = {1, 3, 5, 7};
            for (int behind : around) {
                CaveDraw x = loaded(alike(3, 3, 1, "91"));
                x.draw(4);
                for (int q : around) {
                    if (q != behind) {
                        x.draw(q);
                    }
                }
                equal(x.isReady(4), false);
                x.draw(behind);
                equal(x.isReady(4), true);
            }
        });
        holds("an empty column of a neighbour hinders like any other", () -> {
            CaveDraw x = loaded("D12195;;");
            x.draw(0);
            equal(x.isReady(0), false);
        });
    }

    private void blocks() {
        sentence("A neighbour of a drawpoint blocks it if the drawn number of the drawpoint plus 1"
                + " minus that of the neighbour is greater than the bound.");
        holds("just the bound does not block, one more does", () -> {
            for (int b = 1; b <= 9; b++) {
                CaveDraw x = loaded(alike(1, 2, b, "9999"));
                drawTimes(x, 0, b - 1);
                equal(x.blockers(0), 0);
                x.draw(0);
                equal(x.blockers(0), 2);
                x.draw(1);
                equal(x.blockers(0), 0);
            }
        });
        holds("a neighbour that is ahead does not block", () -> {
            CaveDraw x = loaded(alike(1, 2, 1, "95"));
            x.draw(1);
            equal(x.blockers(0), 0);
            equal(x.blockers(1), 1);
        });
    }

    private void slack() {
        sentence("The slack of a drawpoint is the number of buckets that could be drawn from it one"
                + " after the other without drawing from other drawpoints (0 if it is not ready;"
                + " all buckets of its column if it is not hung and has no neighbours).");
        holds("0 of a hung drawpoint", () -> {
            CaveDraw x = loaded(alike(1, 2, 5, "95"));
            x.hang(0);
            equal(x.slack(0), 0);
        });
        holds("0 of an empty column", () -> equal(new CaveDraw().slack(0), 0));
        holds("0 of a blocked drawpoint", () -> {
            CaveDraw x = loaded(alike(1, 2, 5, "95"));
            drawTimes(x, 0, 5);
            equal(x.slack(0), 0);
        });
        holds("1 before the bound is met", () -> {
            CaveDraw x = loaded(alike(1, 2, 5, "95"));
            drawTimes(x, 0, 4);
            equal(x.slack(0), 1);
        });
        holds("the bound at first, and twice the bound behind a neighbour as far ahead", () -> {
            for (int b = 1; b <= 9; b++) {
                CaveDraw x = loaded(alike(1, 2, b, "9999"));
                equal(x.slack(0), b);
                drawTimes(x, 1, b);
                equal(x.slack(0), 2 * b);
            }
        });
        holds("the column where it holds less than the bound, as much, more", () -> {
            equal(loaded("D12449;;").slack(0), 4);
            equal(loaded("D12339;;").slack(0), 3);
            equal(loaded("D12349;;").slack(0), 3);
            equal(loaded("D12439;;").slack(0), 3);
        });
        holds("the neighbour farthest behind counts", () -> {
            CaveDraw x = loaded(alike(1, 3, 4, "95"));
            drawTimes(x, 0, 2);
            equal(x.slack(1), 4);
            x.draw(2);
            equal(x.slack(1), 5);
        });
        holds("all 54 buckets without neighbours", () -> equal(greatestColumn().slack(0), 54));
        holds("0 without neighbours if it is hung", () -> {
            CaveDraw x = greatestColumn();
            x.hang(0);
            equal(x.slack(0), 0);
        });
    }

    // ---- the methods

    private void pointCountAndBound() {
        promise("6 pointCount");
        sentence("Returns the number of drawpoints.");
        holds("4 of a new object", () -> equal(new CaveDraw().pointCount(), 4));
        holds("1 of the smallest grid", () -> equal(loaded("D111;").pointCount(), 1));
        holds("16 of the greatest grid", () ->
                equal(loaded(alike(4, 4, 1, "")).pointCount(), 16));
        holds("a text that is not loaded does not count", () ->
                equal(with("D111;").pointCount(), 4));
        promise("7 bound");
        sentence("Returns the bound.");
        holds("2 of a new object", () -> equal(new CaveDraw().bound(), 2));
        holds("1 and 9 of a text", () -> {
            equal(loaded("D111;").bound(), 1);
            equal(loaded("D119;").bound(), 9);
        });
        holds("that of the state behind setBound, undo and restore", () -> {
            CaveDraw x = loaded("D115;");
            x.save(0);
            x.setBound(9);
            equal(x.bound(), 9);
            x.undo();
            equal(x.bound(), 5);
            x.setBound(1);
            x.restore(0);
            equal(x.bound(), 5);
        });
    }

    private void numbersOfPoints() {
        promise("8 drawn");
        sentence("Returns the drawn number of a drawpoint.");
        holds("of the first and the last drawpoint", () -> {
            CaveDraw x = great();
            equal(x.drawn(0) + " " + x.drawn(1) + " " + x.drawn(14) + " " + x.drawn(15), "1 0 0 1");
        });
        refusesUnknownPoints("drawn", (x, p) -> x.drawn(p));
        promise("9 remaining");
        sentence("Returns how many buckets are left in the column of a drawpoint.");
        holds("0 of an empty column", () -> equal(new CaveDraw().remaining(0), 0));
        holds("54 of the greatest column", () -> equal(greatestColumn().remaining(0), 54));
        holds("0 of a column that was drawn empty", () -> {
            CaveDraw x = greatestColumn();
            x.drawByOrder(53);
            equal(x.remaining(0), 1);
            x.draw(0);
            equal(x.remaining(0), 0);
        });
        refusesUnknownPoints("remaining", (x, p) -> x.remaining(p));
        promise("10 sliceCount");
        sentence("Returns the number of slices that are left in the column of a drawpoint.");
        holds("0 of an empty column", () -> equal(new CaveDraw().sliceCount(0), 0));
        holds("6 of the greatest column", () -> equal(greatestColumn().sliceCount(0), 6));
        holds("slices of the same grade count each", () ->
                equal(loaded("D111151515;").sliceCount(0), 3));
        holds("a slice counts up to its last bucket", () -> {
            CaveDraw x = loaded("D11135;");
            drawTimes(x, 0, 2);
            equal(x.sliceCount(0), 1);
            x.draw(0);
            equal(x.sliceCount(0), 0);
        });
        refusesUnknownPoints("sliceCount", (x, p) -> x.sliceCount(p));
    }

    private void gradeAhead() {
        promise("11 gradeAhead");
        sentence("Returns its grade; NONE if the column has no such bucket.");
        holds("NONE of an empty column", () -> equal(new CaveDraw().gradeAhead(0, 0), NONE));
        holds("the last bucket, and none behind it", () -> {
            equal(greatestColumn().gradeAhead(0, 53), 6);
            equal(greatestColumn().gradeAhead(0, 54), NONE);
        });
        holds("no bucket is behind the last one where slices have vanished", () -> {
            CaveDraw x = loaded("D119111213141516;");
            for (int left = 5; left >= 0; left--) {
                x.draw(0);
                for (int i = left; i < 8; i++) {
                    equal(x.gradeAhead(0, i), NONE);
                }
            }
        });
        holds("no bucket is behind the last one where load took slices away", () -> {
            CaveDraw x = loaded("D119111213141516;");
            x.clearText();
            TestKit.put(x, "D11117;");
            x.load();
            equal(x.gradeAhead(0, 0), 7);
            equal(x.gradeAhead(0, 1), NONE);
        });
        holds("the last drawpoint of the greatest grid", () -> {
            CaveDraw x = loaded("D441" + ";".repeat(15) + "1728;");
            equal(x.gradeAhead(15, 0), 7);
            equal(x.gradeAhead(15, 2), 8);
            equal(x.gradeAhead(15, 3), NONE);
        });
        holds("the last bucket of a slice and the first of the next", () -> {
            equal(greatestColumn().gradeAhead(0, 8), 1);
            equal(greatestColumn().gradeAhead(0, 9), 2);
        });
        holds("a bucket that was drawn is no more ahead", () -> {
            CaveDraw x = loaded("D1111128;");
            x.draw(0);
            equal(x.gradeAhead(0, 0), 8);
            equal(x.gradeAhead(0, 1), 8);
            equal(x.gradeAhead(0, 2), NONE);
        });
        holds("the grade 0 is a grade", () -> equal(loaded("D11110;").gradeAhead(0, 0), 0));
        holds("a hung drawpoint has its buckets ahead", () -> {
            CaveDraw x = loaded("D11115;");
            x.hang(0);
            equal(x.gradeAhead(0, 0), 5);
        });
        sentence("`i`: index of the bucket, 0 for the next one, 0 to 99");
        holds("0 is the next one", () -> equal(greatestColumn().gradeAhead(0, 0), 1));
        holds("99 is taken", () -> equal(greatestColumn().gradeAhead(0, 99), NONE));
        refusesUnknownPoints("gradeAhead", (x, p) -> x.gradeAhead(p, 0));
        sentence("Throws `IllegalArgumentException` if i is out of range");
        refuses("gradeAhead(0, -1)", ARGUMENT, BoundarySuite::used, x -> x.gradeAhead(0, -1));
        refuses("gradeAhead(0, 100)", ARGUMENT, BoundarySuite::used, x -> x.gradeAhead(0, 100));
        refuses("gradeAhead(2, -1) of an empty column", ARGUMENT, CaveDraw::new,
                x -> x.gradeAhead(2, -1));
        refuses("gradeAhead of the smallest int", ARGUMENT, BoundarySuite::used,
                x -> x.gradeAhead(0, Integer.MIN_VALUE));
        refuses("gradeAhead of the greatest int", ARGUMENT, BoundarySuite::used,
                x -> x.gradeAhead(0, Integer.MAX_VALUE));
    }

    private void isHung() {
        promise("12 isHung");
        sentence("Returns true if it is.");
        holds("the first and the last drawpoint", () -> {
            CaveDraw x = loaded(alike(4, 4, 1, ""));
            x.hang(0);
            x.hang(15);
            for (int p = 0; p < 16; p++) {
                equal(x.isHung(p), p == 0 || p == 15);
            }
        });
        holds("false again behind release", () -> {
            CaveDraw x = new CaveDraw();
            x.hang(0);
            x.release(0);
            equal(x.isHung(0), false);
        });
        refusesUnknownPoints("isHung", (x, p) -> x.isHung(p));
    }

    private void sums() {
        promise("13 totalBuckets");
        sentence("Returns the number of all buckets that were drawn.");
        holds("0 of a new object", () -> equal(new CaveDraw().totalBuckets(), 0));
        holds("432 of the fullest cave", () -> equal(drawnEmpty().totalBuckets(), 48 * 9));
        holds("a draw that is refused does not count", () -> {
            CaveDraw x = new CaveDraw();
            fails(STATE, () -> x.draw(0));
            equal(x.totalBuckets(), 0);
        });
        holds("an undone one does not count", () -> {
            CaveDraw x = loaded("D11115;");
            x.draw(0);
            x.undo();
            equal(x.totalBuckets(), 0);
        });
        promise("14 totalGrade");
        sentence("Returns the sum of the grades of all buckets that were drawn.");
        holds("0 of a new object", () -> equal(new CaveDraw().totalGrade(), 0));
        holds("3888 of the fullest cave", () -> equal(drawnEmpty().totalGrade(), 48 * 9 * 9));
        holds("buckets of the grade 0 add nothing", () -> {
            CaveDraw x = loaded("D11190;");
            x.drawByOrder(9);
            equal(x.totalGrade(), 0);
            equal(x.totalBuckets(), 9);
        });
        holds("an undone one does not count", () -> {
            CaveDraw x = loaded("D1111514;");
            x.draw(0);
            x.draw(0);
            x.undo();
            equal(x.totalGrade(), 5);
        });
    }

    /** A cave with as many full columns as its text can hold, all of it drawn. */
    private static CaveDraw drawnEmpty() {
        CaveDraw x = loaded(alike(2, 4, 9, "999999999999"));
        while (x.drawByOrder(99) > 0) {
            continue;
        }
        return x;
    }

    private void looking() {
        promise("Not promised");
        sentence("Nothing is promised beyond the answers and state changes described above, and"
                + " nothing about an object after its 512th call.");
        changesNothing("pointCount()", BoundarySuite::used, x -> x.pointCount());
        changesNothing("bound()", BoundarySuite::used, x -> x.bound());
        changesNothing("drawn(0)", BoundarySuite::used, x -> x.drawn(0));
        changesNothing("remaining(0)", BoundarySuite::used, x -> x.remaining(0));
        changesNothing("sliceCount(0)", BoundarySuite::used, x -> x.sliceCount(0));
        changesNothing("gradeAhead(0, 0)", BoundarySuite::used, x -> x.gradeAhead(0, 0));
        changesNothing("gradeAhead(0, 99)", BoundarySuite::used, x -> x.gradeAhead(0, 99));
        changesNothing("isHung(3)", BoundarySuite::used, x -> x.isHung(3));
        changesNothing("totalBuckets()", BoundarySuite::used, x -> x.totalBuckets());
        changesNothing("totalGrade()", BoundarySuite::used, x -> x.totalGrade());
    }
}
