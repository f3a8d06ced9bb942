/** The boundaries of the actions: the section ACTIONS AND UNDO and promises 15 to 21. */
public final class ActionBoundaryTests extends BoundarySuite {
    public static void main(String[] args) {
        new ActionBoundaryTests().play();
    }

    @Override
    void run() {
        everyCallIsAnAction();
        noActions();
        remembered();
        oldestIsForgotten();
        partsOfTheState();
        draw();
        drawRefuses();
        drawByOrder();
        drawByOrderRefuses();
        hang();
        release();
        addSlice();
        addSliceRefuses();
        setBound();
        setBoundRefuses();
        undo();
        undoRefuses();
    }

    // ---- the section ACTIONS AND UNDO

    /** An object where every action is possible, and one state is remembered. */
    private static CaveDraw open() {
        CaveDraw x = loaded("D2231245;31;2819;37;");
        x.hang(3);
        return x;
    }

    /** The call makes one more remembered state, which is the state before it. */
    private void isAction(String call, Use use) {
        holds(call + " is an action", () -> {
            CaveDraw x = open();
            String before = Looks.cave(x);
            use.on(x);
            equal(x.undo(), 1);
            equal(Looks.cave(x), before);
        });
    }

    private void isNoAction(String call, Use use) {
        holds(call + " is no action", () -> {
            CaveDraw x = open();
            x.save(0);
            use.on(x);
            equal(x.undo(), 0);
        });
    }

    private void everyCallIsAnAction() {
        promise("ACTIONS AND UNDO");
        sentence("Each call of one of them that does not throw an exception is an action.");
        isAction("draw", x -> x.draw(0));
        isAction("drawByOrder", x -> x.drawByOrder(99));
        isAction("hang", x -> x.hang(0));
        isAction("release", x -> x.release(3));
        isAction("addSlice", x -> x.addSlice(0, 1, 0));
        isAction("setBound", x -> x.setBound(9));
        isNoAction("draw that is refused", x -> fails(STATE, () -> x.draw(3)));
        isNoAction("drawByOrder that is refused", x -> fails(ARGUMENT, () -> x.drawByOrder(0)));
        isNoAction("hang that is refused", x -> fails(STATE, () -> x.hang(3)));
        isNoAction("release that is refused", x -> fails(STATE, () -> x.release(0)));
        isNoAction("addSlice that is refused", x -> fails(ARGUMENT, () -> x.addSlice(0, 0, 0)));
        isNoAction("setBound that is refused", x -> fails(ARGUMENT, () -> x.setBound(10)));
    }

    private void noActions() {
        sentence("undo, load and restore are not actions.");
        holds("undo takes a state away and adds none", () -> {
            CaveDraw x = loaded("D11155;");
            drawTimes(x, 0, 3);
            equal(x.undo(), 2);
            equal(x.undo(), 1);
            equal(x.undo(), 0);
            fails(STATE, x::undo);
        });
        holds("load adds none", () -> {
            CaveDraw x = loaded("D11155;");
            fails(STATE, x::undo);
            x.load();
            fails(STATE, x::undo);
        });
        holds("restore adds none", () -> {
            CaveDraw x = new CaveDraw();
            x.save(0);
            x.restore(0);
            fails(STATE, x::undo);
        });
        isNoAction("save", x -> x.save(1));
        isNoAction("append", x -> x.append('D'));
        isNoAction("clearText", x -> x.clearText());
        isNoAction("runScript", x -> x.runScript(4, 1001_6005_2000_3030L));
        isNoAction("simulate", x -> x.simulate(1, 100));
        isNoAction("orderAhead", x -> x.orderAhead(99));
        isNoAction("bestSequence", x -> x.bestSequence(4, 4));
    }

    private void remembered() {
        sentence("Before each action, the state is remembered.");
        for (int n = 1; n <= 5; n++) {
            int actions = n;
            holds("undo gives the state before the action " + n + " of 5 back", () -> {
                CaveDraw x = greatestColumn();
                drawTimes(x, 0, actions - 1);
                String before = Looks.cave(x);
                drawTimes(x, 0, 1);
                equal(x.undo(), actions - 1);
                equal(Looks.cave(x), before);
            });
        }
        sentence("At most 14 states are remembered; when one more is remembered, the oldest one is"
                + " forgotten.");
        for (int actions : new int[] {1, 13, 14, 15, 16, 27, 28, 29, 42, 43, 50}) {
            holds("behind " + actions + " actions", () -> {
                CaveDraw x = loaded("D119919191919191;");
                drawTimes(x, 0, actions);
                int kept = Math.min(14, actions);
                for (int left = kept - 1; left >= 0; left--) {
                    equal(x.undo(), left);
                    equal(x.drawn(0), actions - kept + left);
                    equal(x.remaining(0), 54 - actions + kept - left);
                }
                fails(STATE, x::undo);
            });
        }
    }

    private void oldestIsForgotten() {
        holds("a place that undo made is used again", () -> {
            CaveDraw x = loaded("D119919191919191;");
            drawTimes(x, 0, 20);
            for (int i = 0; i < 5; i++) {
                x.undo();
            }
            drawTimes(x, 0, 5);
            equal(x.undo(), 13);
            drawTimes(x, 0, 2);
            for (int left = 13; left >= 0; left--) {
                equal(x.undo(), left);
                equal(x.drawn(0), 7 + left);
            }
            fails(STATE, x::undo);
        });
        holds("all undone and remembered anew, again and again", () -> {
            CaveDraw x = loaded("D119919191919191;");
            for (int round = 0; round < 8; round++) {
                drawTimes(x, 0, 11);
                for (int left = 10; left >= 0; left--) {
                    equal(x.undo(), left);
                    equal(x.drawn(0), left);
                }
            }
        });
        holds("behind restore there is room for 14 again", () -> {
            CaveDraw x = loaded("D119919191919191;");
            drawTimes(x, 0, 9);
            x.save(0);
            drawTimes(x, 0, 9);
            x.restore(0);
            drawTimes(x, 0, 14);
            for (int left = 13; left >= 0; left--) {
                equal(x.undo(), left);
                equal(x.drawn(0), 9 + left);
            }
            fails(STATE, x::undo);
        });
        holds("a refused call forgets none", () -> {
            CaveDraw x = loaded("D119919191919191;");
            drawTimes(x, 0, 14);
            fails(STATE, () -> x.release(0));
            fails(ARGUMENT, () -> x.setBound(0));
            for (int left = 13; left >= 0; left--) {
                equal(x.undo(), left);
            }
            equal(x.drawn(0), 0);
        });
    }

    private void partsOfTheState() {
        sentence("The methods in the section \"actions\" change the state, which consists of the"
                + " columns, the drawn numbers, the bound, the hung drawpoints and the sums of"
                + " buckets and grades.");
        holds("each of them changes what it names, and nothing else", () -> {
            CaveDraw x = loaded("D12215;16;");
            equal(Looks.cave(x), "2 points, bound 2, drawn 0/0 0:1/5 0:1/6");
            x.addSlice(0, 2, 9);
            equal(Looks.cave(x), "2 points, bound 2, drawn 0/0 0:2/599 0:1/6");
            x.hang(1);
            equal(Looks.cave(x), "2 points, bound 2, drawn 0/0 0:2/599 !0:1/6");
            x.draw(0);
            equal(Looks.cave(x), "2 points, bound 2, drawn 1/5 1:1/99 !0:1/6");
            x.setBound(1);
            equal(Looks.cave(x), "2 points, bound 1, drawn 1/5 1:1/99 !0:1/6");
            x.release(1);
            equal(Looks.cave(x), "2 points, bound 1, drawn 1/5 1:1/99 0:1/6");
            x.drawByOrder(2);
            equal(Looks.cave(x), "2 points, bound 1, drawn 3/20 2:1/9 1:0/");
        });
        holds("undo gives all of them back", () -> {
            CaveDraw x = open();
            String[] before = new String[6];
            Use[] actions = {y -> y.draw(0), y -> y.hang(1), y -> y.setBound(5),
                y -> y.drawByOrder(4), y -> y.release(3), y -> y.addSlice(3, 2, 9)};
            for (int i = 0; i < actions.length; i++) {
                before[i] = Looks.cave(x);
                actions[i].on(x);
            }
            for (int i = actions.length - 1; i >= 0; i--) {
                x.undo();
                equal(Looks.cave(x), before[i]);
            }
        });
        holds("undo gives the first and the last drawpoint of the greatest grid back", () -> {
            CaveDraw x = loaded(alike(4, 4, 2, "1517"));
            String before = Looks.cave(x);
            x.drawByOrder(32);
            x.undo();
            equal(Looks.cave(x), before);
        });
        sentence("The grid, the text and the save slots are not part of the state.");
        holds("undo keeps the text", () -> {
            CaveDraw x = open();
            x.clearText();
            TestKit.put(x, "D1");
            x.draw(0);
            x.append('2');
            x.undo();
            equal(x.errorPosition(), 3);
            equal(x.clearText(), 3);
        });
        holds("undo keeps the slots", () -> {
            CaveDraw x = loaded("D11155;");
            x.draw(0);
            x.save(0);
            x.draw(0);
            x.save(1);
            x.undo();
            x.undo();
            equal(x.restore(0), 1);
            equal(x.restore(1), 2);
        });
        holds("undo keeps the grid", () -> {
            CaveDraw x = great();
            x.undo();
            equal(x.pointCount(), 16);
        });
    }

    // ---- the methods

    private void draw() {
        promise("15 draw");
        sentence("Returns the grade of the bucket.");
        holds("0 is a grade", () -> equal(loaded("D11110;").draw(0), 0));
        holds("9 is a grade", () -> equal(loaded("D11119;").draw(0), 9));
        holds("the last bucket of the column", () -> {
            CaveDraw x = greatestColumn();
            x.drawByOrder(53);
            equal(x.draw(0), 6);
        });
        holds("the last drawpoint of the greatest grid", () -> {
            CaveDraw x = loaded(alike(4, 4, 1, "14"));
            equal(x.draw(15), 4);
            equal(x.drawn(15), 1);
        });
        refusesUnknownPoints("draw", (x, p) -> x.draw(p));
    }

    private void drawRefuses() {
        sentence("Throws `IllegalStateException` if the drawpoint is not ready");
        refuses("draw from an empty column", STATE, CaveDraw::new, x -> x.draw(0));
        refuses("draw from a column that was drawn empty", STATE, () -> {
            CaveDraw x = loaded("D11115;");
            x.draw(0);
            return x;
        }, x -> x.draw(0));
        refuses("draw from a hung drawpoint", STATE, BoundarySuite::used, x -> x.draw(3));
        refuses("draw from a hung drawpoint without neighbours", STATE, () -> {
            CaveDraw x = single();
            x.hang(0);
            return x;
        }, x -> x.draw(0));
        for (int b = 1; b <= 9; b++) {
            int limit = b;
            refuses("draw beyond the bound " + b, STATE, () -> {
                CaveDraw x = loaded(alike(1, 2, limit, "9319"));
                drawTimes(x, 1, limit);
                return x;
            }, x -> x.draw(1));
        }
        holds("the bucket that meets the bound is drawn", () -> {
            for (int b = 1; b <= 9; b++) {
                CaveDraw x = loaded(alike(1, 2, b, "9319"));
                drawTimes(x, 1, b);
                equal(x.drawn(1), b);
            }
        });
    }

    private void drawByOrder() {
        promise("16 drawByOrder");
        sentence("Draws by order until n buckets are drawn or no drawpoint is ready. (It is an"
                + " action also if nothing is drawn.)");
        holds("n buckets where there are more", () -> {
            CaveDraw x = greatestColumn();
            equal(x.drawByOrder(53), 53);
            equal(x.remaining(0), 1);
        });
        holds("n buckets where there are as many", () -> {
            CaveDraw x = loaded("D11155;");
            equal(x.drawByOrder(5), 5);
            equal(x.remaining(0), 0);
        });
        holds("all buckets where there are fewer", () -> {
            CaveDraw x = loaded("D11155;");
            equal(x.drawByOrder(6), 5);
            equal(x.remaining(0), 0);
        });
        holds("none where no drawpoint is ready", () -> equal(new CaveDraw().drawByOrder(99), 0));
        holds("none where the only column is hung", () -> {
            CaveDraw x = loaded("D11155;");
            x.hang(0);
            equal(x.drawByOrder(1), 0);
        });
        holds("it stops where the bound stops all", () -> {
            CaveDraw x = loaded("D12395;;");
            equal(x.drawByOrder(9), 3);
            equal(x.drawByOrder(9), 0);
        });
        holds("it is an action if nothing is drawn", () -> {
            CaveDraw x = new CaveDraw();
            x.drawByOrder(1);
            equal(x.undo(), 0);
            fails(STATE, x::undo);
        });
        holds("it is one action, whatever it draws", () -> {
            CaveDraw x = greatestColumn();
            x.drawByOrder(50);
            equal(x.undo(), 0);
            equal(x.drawn(0), 0);
        });
        holds("14 of nothing push the older state out", () -> {
            CaveDraw x = loaded("D11115;");
            x.draw(0);
            for (int i = 0; i < 14; i++) {
                x.drawByOrder(1);
            }
            for (int left = 13; left >= 0; left--) {
                equal(x.undo(), left);
            }
            equal(x.drawn(0), 1);
            fails(STATE, x::undo);
        });
    }

    private void drawByOrderRefuses() {
        sentence("Returns how many buckets were drawn.");
        holds("the sum of buckets grows by as many", () -> {
            CaveDraw x = loaded("D2231245;31;2819;37;");
            for (int n = 1; n <= 6; n++) {
                int before = x.totalBuckets();
                equal(x.drawByOrder(n), x.totalBuckets() - before);
            }
            equal(x.totalBuckets(), 14);
        });
        sentence("`n`: number of buckets, 1 to 99");
        holds("1 is taken", () -> equal(greatestColumn().drawByOrder(1), 1));
        holds("99 is taken", () -> {
            CaveDraw x = loaded(alike(1, 2, 1, "919191919191"));
            equal(x.drawByOrder(99), 99);
            equal(x.totalBuckets(), 99);
            equal(x.drawByOrder(99), 9);
        });
        sentence("Throws `IllegalArgumentException` if n is out of range");
        refuses("drawByOrder(0)", ARGUMENT, BoundarySuite::used, x -> x.drawByOrder(0));
        refuses("drawByOrder(-1)", ARGUMENT, BoundarySuite::used, x -> x.drawByOrder(-1));
        refuses("drawByOrder(100)", ARGUMENT, BoundarySuite::used, x -> x.drawByOrder(100));
        refuses("drawByOrder(100) where nothing is ready", ARGUMENT, CaveDraw::new,
                x -> x.drawByOrder(100));
        refuses("drawByOrder of the smallest int", ARGUMENT, BoundarySuite::used,
                x -> x.drawByOrder(Integer.MIN_VALUE));
        refuses("drawByOrder of the greatest int", ARGUMENT, BoundarySuite::used,
                x -> x.drawByOrder(Integer.MAX_VALUE));
    }

    private void hang() {
        promise("17 hang");
        sentence("Returns the number of hung drawpoints then.");
        holds("1 of the first, 16 of the last", () -> {
            CaveDraw x = loaded(alike(4, 4, 1, ""));
            for (int p = 0; p < 16; p++) {
                equal(x.hang(p), p + 1);
            }
        });
        holds("1 in a grid of one", () -> equal(loaded("D111;").hang(0), 1));
        holds("an empty column can be hung", () -> equal(new CaveDraw().hang(2), 1));
        holds("a blocked drawpoint can be hung", () -> {
            CaveDraw x = loaded("D12195;;");
            x.draw(0);
            equal(x.hang(0), 1);
        });
        holds("only this drawpoint is hung", () -> {
            CaveDraw x = new CaveDraw();
            x.hang(2);
            equal(Looks.cave(x), "4 points, bound 2, drawn 0/0 0:0/ 0:0/ !0:0/ 0:0/");
        });
        refusesUnknownPoints("hang", (x, p) -> x.hang(p));
        sentence("Throws `IllegalStateException` if it is hung");
        refuses("hang of a hung drawpoint", STATE, BoundarySuite::used, x -> x.hang(3));
        refuses("hang of the hung drawpoint 15", STATE, BoundarySuite::great, x -> x.hang(15));
        refuses("hang of a drawpoint that is hung again", STATE, () -> {
            CaveDraw x = single();
            x.hang(0);
            x.release(0);
            x.hang(0);
            return x;
        }, x -> x.hang(0));
        holds("behind release it is possible again", () -> {
            CaveDraw x = new CaveDraw();
            x.hang(0);
            x.release(0);
            equal(x.hang(0), 1);
        });
    }

    private void release() {
        promise("18 release");
        sentence("Returns the number of hung drawpoints then.");
        holds("15 of the first, 0 of the last", () -> {
            CaveDraw x = loaded(alike(4, 4, 1, ""));
            for (int p = 0; p < 16; p++) {
                x.hang(p);
            }
            for (int p = 0; p < 16; p++) {
                equal(x.release(p), 15 - p);
                equal(x.isHung(p), false);
            }
        });
        holds("0 in a grid of one", () -> {
            CaveDraw x = loaded("D111;");
            x.hang(0);
            equal(x.release(0), 0);
        });
        refusesUnknownPoints("release", (x, p) -> x.release(p));
        sentence("Throws `IllegalStateException` if it is not hung");
        refuses("release of a drawpoint of a new object", STATE, CaveDraw::new,
                x -> x.release(0));
        refuses("release beside a hung drawpoint", STATE, BoundarySuite::used, x -> x.release(2));
        refuses("release of a drawpoint that was released", STATE, () -> {
            CaveDraw x = used();
            x.release(3);
            return x;
        }, x -> x.release(3));
        refuses("release of a hanging that was undone", STATE, () -> {
            CaveDraw x = new CaveDraw();
            x.hang(1);
            x.undo();
            return x;
        }, x -> x.release(1));
    }

    private void addSlice() {
        promise("19 addSlice");
        sentence("Adds a slice on top of a column.");
        holds("it is the last one to be drawn", () -> {
            CaveDraw x = loaded("D11124;");
            x.addSlice(0, 1, 9);
            equal(Looks.cave(x), "1 points, bound 1, drawn 0/0 0:2/449");
        });
        holds("it is a slice of its own, whatever the grade of the one below", () -> {
            CaveDraw x = loaded("D11124;");
            equal(x.addSlice(0, 1, 4), 2);
        });
        holds("a hung drawpoint takes one", () -> {
            CaveDraw x = new CaveDraw();
            x.hang(0);
            equal(x.addSlice(0, 1, 1), 1);
            equal(x.isHung(0), true);
        });
        holds("the other columns keep theirs", () -> {
            CaveDraw x = loaded("D13111;22;33;");
            x.addSlice(1, 9, 9);
            equal(Looks.cave(x), "3 points, bound 1, drawn 0/0 0:1/1 0:2/22999999999 0:1/333");
        });
        sentence("Returns the number of slices of the column then.");
        holds("1 of an empty column, 6 at the end", () -> {
            CaveDraw x = loaded(alike(4, 4, 1, ""));
            for (int s = 1; s <= 6; s++) {
                equal(x.addSlice(15, 9, 9), s);
            }
        });
        holds("6 again where a slice has vanished", () -> {
            CaveDraw x = loaded("D111111213141516;");
            x.draw(0);
            equal(x.addSlice(0, 1, 7), 6);
            equal(Looks.cave(x), "1 points, bound 1, drawn 1/1 1:6/234567");
        });
        sentence("`buckets`: 1 to 9");
        holds("1 is taken", () -> equal(new CaveDraw().addSlice(0, 1, 5), 1));
        holds("9 is taken", () -> equal(new CaveDraw().addSlice(0, 9, 5), 1));
        sentence("`grade`: 0 to 9");
        holds("0 is taken", () -> equal(new CaveDraw().addSlice(0, 5, 0), 1));
        holds("9 is taken", () -> equal(new CaveDraw().addSlice(0, 5, 9), 1));
        refusesUnknownPoints("addSlice", (x, p) -> x.addSlice(p, 1, 1));
    }

    private void addSliceRefuses() {
        sentence("Throws `IllegalArgumentException` if buckets or grade is out of range");
        int[][] wrong = {{0, 5}, {10, 5}, {-1, 5}, {5, -1}, {5, 10}, {0, -1}, {10, 10},
            {Integer.MIN_VALUE, 5}, {Integer.MAX_VALUE, 5},
            {5, Integer.MIN_VALUE}, {5, Integer.MAX_VALUE}};
        for (int[] w : wrong) {
            refuses("addSlice(0, " + w[0] + ", " + w[1] + ")", ARGUMENT, BoundarySuite::used,
                    x -> x.addSlice(0, w[0], w[1]));
        }
        sentence("Throws `IllegalStateException` if the column has 6 slices");
        refuses("addSlice as the seventh of a text", STATE, () -> loaded("D111111213141516;"),
                x -> x.addSlice(0, 1, 1));
        refuses("addSlice as the seventh that is added", STATE, () -> {
            CaveDraw x = used();
            for (int s = 0; s < 5; s++) {
                x.addSlice(1, 1, s);
            }
            return x;
        }, x -> x.addSlice(1, 9, 9));
        refuses("addSlice while the lowest of six has a bucket left", STATE, () -> {
            CaveDraw x = loaded("D111211213141516;");
            x.draw(0);
            return x;
        }, x -> x.addSlice(0, 1, 1));
        holds("another column has room", () -> {
            CaveDraw x = loaded("D121111213141516;;");
            equal(x.addSlice(1, 1, 1), 1);
        });
    }

    private void setBound() {
        promise("20 setBound");
        sentence("Changes the bound. (It is an action also if the bound stays the same.)");
        holds("a greater one makes a drawpoint ready", () -> {
            CaveDraw x = loaded("D12195;;");
            x.draw(0);
            x.setBound(2);
            equal(x.slack(0), 1);
        });
        holds("a smaller one takes the slack away", () -> {
            CaveDraw x = loaded("D12995;;");
            x.draw(0);
            x.setBound(1);
            equal(x.slack(0), 0);
            equal(x.blockers(0), 2);
        });
        holds("the same one is an action", () -> {
            CaveDraw x = new CaveDraw();
            equal(x.setBound(2), 2);
            equal(x.undo(), 0);
            fails(STATE, x::undo);
        });
        holds("in the smallest and in the greatest grid", () -> {
            CaveDraw x = single();
            equal(x.setBound(9), 1);
            equal(x.bound(), 9);
            CaveDraw y = great();
            equal(y.setBound(1), 2);
            equal(y.bound(), 1);
        });
        sentence("Returns the previous bound.");
        holds("2 of a new object, then the one that was set", () -> {
            CaveDraw x = new CaveDraw();
            equal(x.setBound(9), 2);
            equal(x.setBound(1), 9);
            equal(x.setBound(1), 1);
        });
        sentence("`b`: new bound, 1 to 9");
        holds("1 is taken", () -> equal(new CaveDraw().setBound(1), 2));
        holds("9 is taken", () -> equal(new CaveDraw().setBound(9), 2));
        sentence("Throws `IllegalArgumentException` if b is out of range");
        for (int b : new int[] {0, 10, -1, Integer.MIN_VALUE, Integer.MAX_VALUE}) {
            refuses("setBound(" + b + ")", ARGUMENT, BoundarySuite::used, x -> x.setBound(b));
        }
    }

    /** 0 and 1 differ by n, of a grid of one row; nothing else is drawn. */
    private static CaveDraw differing(int first, int second, int n) {
        CaveDraw x = loaded(alike(1, 2, 9, "97"));
        drawTimes(x, first, n);
        equal(x.drawn(first) - x.drawn(second), n);
        return x;
    }

    private void setBoundRefuses() {
        sentence("Throws `IllegalStateException` if the drawn numbers of two neighbours differ by"
                + " more than b");
        for (int b = 1; b <= 8; b++) {
            int n = b + 1;
            int asked = b;
            refuses("setBound(" + b + ") where 0 is " + n + " ahead of 1", STATE,
                    () -> differing(0, 1, n), x -> x.setBound(asked));
            refuses("setBound(" + b + ") where 1 is " + n + " ahead of 0", STATE,
                    () -> differing(1, 0, n), x -> x.setBound(asked));
        }
        holds("by just b is possible", () -> {
            for (int b = 1; b <= 9; b++) {
                equal(differing(0, 1, b).setBound(b), 9);
                equal(differing(1, 0, b).setBound(b), 9);
            }
        });
        refuses("setBound(1) where the last two of the greatest grid differ by 2", STATE, () -> {
            CaveDraw x = loaded(alike(4, 4, 2, "21"));
            x.hang(15);
            equal(x.drawByOrder(99), 30);
            x.release(15);
            return x;
        }, x -> x.setBound(1));
        refuses("setBound(1) where a hung drawpoint is 2 ahead", STATE, () -> {
            CaveDraw x = differing(0, 1, 2);
            x.hang(0);
            return x;
        }, x -> x.setBound(1));
        refuses("setBound(1) where two of a column differ by 2", STATE, () -> {
            CaveDraw x = loaded(alike(2, 1, 2, "95"));
            drawTimes(x, 1, 2);
            return x;
        }, x -> x.setBound(1));
        holds("two that are no neighbours may differ by more", () -> {
            CaveDraw x = loaded(alike(1, 3, 1, "95"));
            x.draw(0);
            x.draw(1);
            x.draw(0);
            equal(x.setBound(1), 1);
            CaveDraw y = loaded(alike(2, 3, 2, "95"));
            y.draw(2);
            y.draw(1);
            y.draw(5);
            y.draw(2);
            equal(y.drawn(2) - y.drawn(3), 2);
            equal(y.setBound(1), 2);
        });
        holds("two across the corner may differ by more", () -> {
            CaveDraw x = loaded(alike(2, 2, 2, "95"));
            x.draw(1);
            x.draw(2);
            drawTimes(x, 0, 2);
            equal(x.setBound(1), 2);
        });
    }

    private void undo() {
        promise("21 undo");
        sentence("Takes back the last action that is remembered.");
        holds("the last one first", () -> {
            CaveDraw x = loaded("D11155;");
            x.draw(0);
            x.hang(0);
            x.undo();
            equal(x.isHung(0), false);
            equal(x.drawn(0), 1);
            x.undo();
            equal(x.drawn(0), 0);
        });
        holds("what was undone can be done again", () -> {
            CaveDraw x = loaded("D1111514;");
            equal(x.draw(0), 5);
            x.undo();
            equal(x.draw(0), 5);
            equal(x.draw(0), 4);
            equal(x.undo(), 1);
            equal(x.draw(0), 4);
        });
        holds("a slice that vanished is there again", () -> {
            CaveDraw x = loaded("D1111524;");
            x.draw(0);
            x.undo();
            equal(Looks.cave(x), "1 points, bound 1, drawn 0/0 0:2/544");
        });
        sentence("Returns how many states are still remembered.");
        holds("13 of 14, 0 of the last", () -> {
            CaveDraw x = new CaveDraw();
            for (int i = 0; i < 14; i++) {
                x.setBound(1);
            }
            for (int left = 13; left >= 0; left--) {
                equal(x.undo(), left);
            }
        });
        holds("13 also where there were more than 14 actions", () -> {
            CaveDraw x = new CaveDraw();
            for (int i = 0; i < 40; i++) {
                x.setBound(1);
            }
            equal(x.undo(), 13);
        });
    }

    private void undoRefuses() {
        sentence("Throws `IllegalStateException` if none is remembered");
        refuses("undo of a new object", STATE, CaveDraw::new, x -> x.undo());
        refuses("undo behind load", STATE, () -> {
            CaveDraw x = used();
            x.load();
            x.save(1);
            return x;
        }, x -> x.undo());
        refuses("undo behind restore", STATE, () -> {
            CaveDraw x = used();
            x.restore(1);
            return x;
        }, x -> x.undo());
        refuses("undo behind the undo of all actions", STATE, () -> {
            CaveDraw x = loaded("D11155;");
            x.draw(0);
            x.save(0);
            x.draw(0);
            x.undo();
            x.undo();
            return x;
        }, x -> x.undo());
        refuses("a 15th undo behind 15 actions", STATE, () -> {
            CaveDraw x = loaded("D119919191919191;");
            drawTimes(x, 0, 15);
            for (int i = 0; i < 14; i++) {
                x.undo();
            }
            return x;
        }, x -> x.undo());
        refuses("undo behind a save", STATE, () -> {
            CaveDraw x = new CaveDraw();
            x.save(0);
            return x;
        }, x -> x.undo());
    }
}
