/** The sentences of the document that name no boundary, and that no other suite quotes. */
public final class SentenceTests extends BoundarySuite {
    public static void main(String[] args) {
        new SentenceTests().play();
    }

    @Override
    void run() {
        boundedDifference();
        whatItTells();
        append();
        numbersOfPoints();
        gradesAhead();
        draw();
        hangAndRelease();
        isReady();
        blockers();
        slack();
        orderAhead();
        bucketsToWaste();
        runScript();
        restore();
        everyPoint();
    }

    // ---- objects to begin with

    /** Sixteen drawpoints with the bound 9, in which no column is like the one beside it. */
    private static CaveDraw uneven() {
        StringBuilder text = new StringBuilder("D449");
        for (int p = 0; p < 16; p++) {
            text.append(p % 9 + 1).append(p % 10);
            text.append(p % 2 == 1 ? "2" + (9 - p % 10) : "").append(';');
        }
        return loaded(text.toString());
    }

    /** Three rows and columns with the bound 1: 0 is hung, 2 is empty, 4 was drawn once. */
    private static CaveDraw mixed() {
        CaveDraw x = loaded("D33191;91;;91;91;91;91;91;91;");
        x.draw(4);
        x.hang(0);
        return x;
    }

    private static boolean canDraw(CaveDraw x, int p) {
        try {
            x.draw(p);
            return true;
        } catch (IllegalStateException refused) {
            return false;
        }
    }

    // ---- what it is

    private static void isBounded(CaveDraw x, int rows, int columns) {
        int bound = x.bound();
        int[] drawn = new int[rows * columns];
        for (int p = 0; p < drawn.length; p++) {
            drawn[p] = x.drawn(p);
            if (p % columns > 0) {
                equal(Math.abs(drawn[p] - drawn[p - 1]) <= bound, true);
            }
            if (p >= columns) {
                equal(Math.abs(drawn[p] - drawn[p - columns]) <= bound, true);
            }
        }
    }

    private void boundedDifference() {
        promise("What it is");
        sentence("Draw control for block caving: ore columns are let down through a grid of"
                + " drawpoints bucket by bucket, and the numbers of buckets drawn from"
                + " neighbouring drawpoints must stay within a bounded difference.");
        for (int bound = 1; bound <= 3; bound++) {
            int limit = bound;
            holds("whatever is drawn, the bound " + bound + " is kept in every grid", () -> {
                for (int grid = 0; grid < 16; grid++) {
                    int rows = grid / 4 + 1;
                    int columns = grid % 4 + 1;
                    CaveDraw x = loaded(alike(rows, columns, limit, "9591"));
                    for (int step = 0; step < 5; step++) {
                        int p = step * 7 % (rows * columns);
                        // The most wilful draw: as often as it can be.
                        while (canDraw(x, p)) {
                            continue;
                        }
                        isBounded(x, rows, columns);
                        x.drawByOrder(1 + step);
                    }
                    isBounded(x, rows, columns);
                }
            });
        }
    }

    /** Three in a row with the bound 1, the first of them drawn once. */
    private static CaveDraw row() {
        CaveDraw x = loaded("D1312917;35;12;");
        x.draw(0);
        return x;
    }

    private void whatItTells() {
        sentence("It tells which neighbours block a drawpoint, the fewest buckets that allow a"
                + " wanted draw, when waste arrives, draw orders by largest slack, the best short"
                + " sequences, and where observed grades come from.");
        holds("which neighbours block a drawpoint", () -> equal(row().blockers(0), 2));
        holds("the fewest buckets that allow a wanted draw", () ->
                equal(row().bucketsFor(0, 2), 2 + 2 + 1));
        holds("when waste arrives", () -> {
            equal(row().bucketsToWaste(0, 8), 1);
            equal(row().bucketsToWaste(0, 7), NONE);
        });
        holds("draw orders by largest slack", () -> {
            int[] due = {1, 0, 2, 1, 0, NONE};
            for (int i = 0; i < due.length; i++) {
                equal(row().orderAhead(i), due[i]);
            }
        });
        holds("the best short sequences", () -> {
            equal(row().bestSequence(2, 0), 1);
            equal(row().bestSequence(2, 1), 0);
            equal(row().bestSequence(2, 2), 5 + 9);
        });
        holds("where observed grades come from", () -> {
            equal(row().origins(2, 97), 1);
            equal(row().origins(1, 2), 4);
        });
    }

    // ---- the methods

    private void append() {
        promise("2 append");
        sentence("Appends a character to the text buffer.");
        holds("behind those that stand there", () -> {
            CaveDraw x = with("D1");
            x.append('2');
            x.append('3');
            x.append(';');
            x.append(';');
            equal(x.load(), 2);
            equal(x.bound(), 3);
        });
        holds("in another order they are another text", () -> {
            equal(with("D111;").errorPosition(), NONE);
            equal(with("1D11;").errorPosition(), 0);
            equal(with("D11;1").errorPosition(), 3);
        });
        holds("the state stays until load", () -> {
            CaveDraw x = with("D111;");
            equal(Looks.cave(x), Looks.cave(new CaveDraw()));
        });
    }

    private void numbersOfPoints() {
        promise("8 drawn");
        sentence("Returns its drawn number.");
        holds("of each of 16 drawpoints its own", () -> {
            CaveDraw x = uneven();
            for (int p = 0; p < 16; p++) {
                drawTimes(x, p, p % 3);
            }
            for (int p = 0; p < 16; p++) {
                equal(x.drawn(p), p % 3);
            }
        });
        promise("9 remaining");
        sentence("Returns the number of buckets.");
        holds("of each of 16 drawpoints its own", () -> {
            CaveDraw x = uneven();
            for (int p = 0; p < 16; p++) {
                equal(x.remaining(p), p % 9 + 1 + (p % 2 == 1 ? 2 : 0));
            }
        });
        promise("10 sliceCount");
        sentence("Returns the number of slices.");
        holds("of each of 16 drawpoints its own", () -> {
            CaveDraw x = uneven();
            for (int p = 0; p < 16; p++) {
                equal(x.sliceCount(p), 1 + p % 2);
            }
        });
    }

    private void gradesAhead() {
        promise("11 gradeAhead");
        sentence("Returns the grade of a bucket of the column of a drawpoint.");
        holds("of each of 16 drawpoints its own", () -> {
            CaveDraw x = uneven();
            for (int p = 0; p < 16; p++) {
                int lower = p % 9 + 1;
                equal(x.gradeAhead(p, lower - 1), p % 10);
                equal(x.gradeAhead(p, lower), p % 2 == 1 ? 9 - p % 10 : NONE);
            }
        });
    }

    private void draw() {
        promise("15 draw");
        sentence("Draws a bucket.");
        holds("one, from this drawpoint alone", () -> {
            CaveDraw x = loaded("D1322518;2617;24;");
            x.draw(1);
            equal(Looks.cave(x), "3 points, bound 2, drawn 1/6 0:2/558 1:2/67 0:1/44");
            x.draw(1);
            equal(Looks.cave(x), "3 points, bound 2, drawn 2/12 0:2/558 2:1/7 0:1/44");
        });
    }

    private void hangAndRelease() {
        promise("12 isHung");
        sentence("Tells whether a drawpoint is hung.");
        holds("of each of 16 drawpoints its own", () -> {
            CaveDraw x = uneven();
            for (int p = 0; p < 16; p += 3) {
                x.hang(p);
            }
            for (int p = 0; p < 16; p++) {
                equal(x.isHung(p), p % 3 == 0);
            }
        });
        promise("17 hang");
        sentence("Hangs a drawpoint.");
        holds("this one, and its columns and numbers stay", () -> {
            CaveDraw x = loaded("D12215;16;");
            x.draw(0);
            x.hang(1);
            equal(Looks.cave(x), "2 points, bound 2, drawn 1/5 1:0/ !0:1/6");
        });
        promise("18 release");
        sentence("Releases a hung drawpoint.");
        holds("this one, and the others stay hung", () -> {
            CaveDraw x = loaded("D13215;16;17;");
            for (int p = 0; p < 3; p++) {
                x.hang(p);
            }
            x.release(1);
            equal(Looks.cave(x), "3 points, bound 2, drawn 0/0 !0:1/5 0:1/6 !0:1/7");
        });
    }

    private void isReady() {
        promise("22 isReady");
        sentence("Tells whether a drawpoint is ready.");
        holds("all but the hung, the empty and the blocked one", () -> {
            for (int p = 0; p < 9; p++) {
                equal(mixed().isReady(p), p != 0 && p != 2 && p != 4);
            }
        });
        holds("just those can be drawn from", () -> {
            for (int p = 0; p < 9; p++) {
                equal(mixed().isReady(p), canDraw(mixed(), p));
            }
        });
    }

    private void blockers() {
        promise("23 blockers");
        sentence("Returns the neighbours that block a drawpoint.");
        holds("of each drawpoint its own", () -> {
            CaveDraw x = mixed();
            for (int p = 0; p < 9; p++) {
                equal(x.blockers(p), p == 4 ? (1 << 1) + (1 << 3) + (1 << 5) + (1 << 7) : 0);
            }
        });
        holds("one that has followed blocks no more, and is blocked by its own", () -> {
            CaveDraw x = mixed();
            x.draw(1);
            equal(x.blockers(4), (1 << 3) + (1 << 5) + (1 << 7));
            equal(x.blockers(1), (1 << 0) + (1 << 2));
        });
    }

    private void slack() {
        promise("24 slack");
        sentence("Returns the slack of a drawpoint.");
        holds("of each drawpoint its own", () -> {
            CaveDraw x = loaded("D13295;95;25;");
            x.draw(1);
            equal(x.slack(0) + " " + x.slack(1) + " " + x.slack(2), "3 1 2");
        });
        holds("as many as can be drawn one after the other, and no more", () -> {
            for (int p = 0; p < 9; p++) {
                CaveDraw x = mixed();
                x.draw(5);
                int slack = x.slack(p);
                for (int i = 0; i < slack; i++) {
                    equal(canDraw(x, p), true);
                }
                equal(canDraw(x, p), false);
            }
        });
    }

    private void orderAhead() {
        promise("26 orderAhead");
        sentence("Returns from which drawpoint a bucket would come if buckets were drawn by"
                + " order.");
        holds("the one whose drawn number grows then", () -> {
            String text = "D2329193;9594;35;9298;91;96;";
            CaveDraw x = loaded(text);
            for (int i = 0; i < 40; i++) {
                int from = loaded(text).orderAhead(i);
                int before = from == NONE ? 0 : x.drawn(from);
                equal(x.drawByOrder(1), from == NONE ? 0 : 1);
                equal(from == NONE || x.drawn(from) == before + 1, true);
            }
        });
    }

    private void bucketsToWaste() {
        promise("27 bucketsToWaste");
        sentence("Tells when waste arrives at a drawpoint.");
        holds("the buckets before it are no waste, and the one behind them is", () -> {
            for (int g = 1; g <= 9; g++) {
                CaveDraw x = loaded("D111192817362524;");
                int n = x.bucketsToWaste(0, g);
                int left = x.remaining(0);
                for (int i = 0; i < (n == NONE ? left : n); i++) {
                    equal(x.draw(0) >= g, true);
                }
                equal(n == NONE || x.draw(0) < g, true);
            }
        });
    }

    private void runScript() {
        promise("32 runScript");
        sentence("Runs a script on a copy of the state.");
        holds("on the columns, numbers, bound and hung drawpoints of now, which stay", () -> {
            CaveDraw x = loaded("D12395;95;");
            x.draw(0);
            x.hang(1);
            x.setBound(2);
            String before = Looks.cave(x);
            equal(x.runScript(4, 4001_3010_4013_1013L), NONE);
            equal(x.runScript(4, 4001_3010_4013_1014L), 3);
            equal(Looks.cave(x), before);
        });
        sentence("Returns the result of the script.");
        holds("NONE, or the index of the command that fails", () -> {
            CaveDraw x = loaded("D12395;95;");
            equal(x.runScript(3, 1003_1011_1001L), NONE);
            equal(x.runScript(3, 1003_1010_1001L), 1);
            equal(x.runScript(3, 1003_1011_1002L), 2);
            equal(x.runScript(3, 1004_1011_1001L), 0);
        });
    }

    private void restore() {
        promise("35 restore");
        sentence("`slot`: 0 or 1");
        holds("0 is taken, and 1", () -> {
            CaveDraw x = new CaveDraw();
            x.save(0);
            x.save(1);
            equal(x.restore(0), 0);
            equal(x.restore(1), 0);
        });
    }

    private void everyPoint() {
        takesEveryPoint("8 drawn", (x, p) -> x.drawn(p));
        takesEveryPoint("9 remaining", (x, p) -> x.remaining(p));
        takesEveryPoint("10 sliceCount", (x, p) -> x.sliceCount(p));
        takesEveryPoint("11 gradeAhead", (x, p) -> x.gradeAhead(p, 0));
        takesEveryPoint("12 isHung", (x, p) -> x.isHung(p));
        takesEveryPoint("15 draw", (x, p) -> x.draw(p));
        takesEveryPoint("17 hang", (x, p) -> x.hang(p));
        takesEveryPoint("18 release", (x, p) -> {
            x.hang(p);
            x.release(p);
        });
        takesEveryPoint("19 addSlice", (x, p) -> x.addSlice(p, 1, 1));
        takesEveryPoint("22 isReady", (x, p) -> x.isReady(p));
        takesEveryPoint("24 slack", (x, p) -> x.slack(p));
        takesEveryPoint("27 bucketsToWaste", (x, p) -> x.bucketsToWaste(p, 1));
        takesEveryPoint("28 bucketsFor", (x, p) -> x.bucketsFor(p, 1));
        takesEveryPoint("29 mostFrom", (x, p) -> x.mostFrom(p));
    }

    private void takesEveryPoint(String method, OfPoint call) {
        promise(method);
        sentence("`p`: drawpoint");
        holds("every drawpoint of every grid is taken, and the next number is not", () -> {
            for (int grid = 0; grid < 16; grid++) {
                int points = (grid / 4 + 1) * (grid % 4 + 1);
                CaveDraw x = loaded(alike(grid / 4 + 1, grid % 4 + 1, 1, "15"));
                for (int p = 0; p < points; p++) {
                    call.on(x, p);
                }
                fails(INDEX, () -> call.on(x, points));
            }
        });
    }
}
