/** The boundaries of the questions: DRAW ORDER, WANTED DRAWS and promises 22 to 31. */
public final class QuestionBoundaryTests extends BoundarySuite {
    private static final String FULL = "919293949596";

    public static void main(String[] args) {
        new QuestionBoundaryTests().play();
    }

    @Override
    void run() {
        drawOrder();
        drawingByOrder();
        wantedDraws();
        nothingHungMeanwhile();
        isReady();
        blockers();
        slack();
        nextByOrder();
        orderAhead();
        orderAheadRefuses();
        bucketsToWaste();
        bucketsToWasteRefuses();
        bucketsFor();
        bucketsForIsNone();
        bucketsForRefuses();
        mostFrom();
        bestSequence();
        bestAmongSeveral();
        noBestSequence();
        bestSequenceRefuses();
        origins();
        originsDigits();
        originsRefuses();
        questions();
    }

    // ---- the section DRAW ORDER

    private static void nextIs(String text, int due) {
        equal(loaded(text).nextByOrder(), due);
    }

    private void drawOrder() {
        promise("DRAW ORDER");
        sentence("The next drawpoint by order is, of all ready drawpoints, the one with the"
                + " greatest slack; among several the one whose next bucket has the greatest grade;"
                + " among several the one with the smallest number.");
        holds("slack that is greater by one goes before the grade 9", () -> {
            nextIs("D13529;;30;", 2);
            nextIs("D13530;;29;", 0);
        });
        holds("buckets beyond the slack do not count", () -> {
            nextIs("D13294;;25;", 2);
            nextIs("D13295;;25;", 0);
        });
        holds("with the same slack a grade that is greater by one goes before the number", () -> {
            nextIs("D13528;;29;", 2);
            nextIs("D13520;;21;", 2);
        });
        holds("with the same slack and grade the smaller number goes first", () -> {
            nextIs("D13520;;20;", 0);
            nextIs("D13529;;29;", 0);
        });
        holds("of 16 that are alike the drawpoint 0", () -> nextIs(alike(4, 4, 3, "15"), 0));
        holds("the last of 16, by its slack and by its grade", () -> {
            String sixteen = alike(4, 4, 3, "15");
            String most = sixteen.substring(0, sixteen.length() - 3);
            nextIs(most + "25;", 15);
            nextIs(most + "16;", 15);
            nextIs(most + "14;", 0);
        });
        holds("only the grade of the next bucket counts", () -> {
            nextIs("D1351119;;22;", 2);
            nextIs("D1351311;;22;", 0);
        });
        holds("the only ready one, with the grade 0 and the slack 1", () ->
                nextIs("D221;10;;;", 1));
        holds("a hung one and a blocked one are passed over", () -> {
            CaveDraw x = loaded("D14129;;29;11;");
            x.hang(0);
            equal(x.nextByOrder(), 2);
            x.draw(2);
            equal(x.nextByOrder(), 3);
        });
    }

    private void drawingByOrder() {
        sentence("Drawing by order means: drawing a bucket from the next drawpoint by order, again"
                + " and again.");
        holds("the next one is found anew for every bucket", () -> {
            CaveDraw x = loaded("D12251;52;");
            int[] due = {1, 0, 1, 0, 1, 0, 1, 0, 1, 0};
            for (int i = 0; i < due.length; i++) {
                equal(x.orderAhead(0), due[i]);
                x.drawByOrder(1);
                equal(x.totalBuckets(), i + 1);
            }
            equal(x.nextByOrder(), NONE);
        });
        holds("n at once and n one by one are the same", () -> {
            for (int n = 1; n <= 30; n++) {
                CaveDraw x = loaded("D2231245;31;2819;37;");
                x.drawByOrder(n);
                CaveDraw y = loaded("D2231245;31;2819;37;");
                for (int i = 0; i < n; i++) {
                    y.drawByOrder(1);
                }
                equal(Looks.cave(x), Looks.cave(y));
            }
        });
    }

    // ---- the section WANTED DRAWS

    private static void feasibleUpTo(CaveDraw x, int p, int most) {
        equal(x.mostFrom(p), most);
        for (int k = 1; k <= 54; k++) {
            equal(x.bucketsFor(p, k) != NONE, k <= most);
        }
    }

    private void wantedDraws() {
        promise("WANTED DRAWS");
        sentence("A draw of k buckets from a drawpoint p is feasible if there is a sequence of"
                + " buckets, each from a drawpoint that is ready at that time, after which the"
                + " drawn number of p is greater by exactly k.");
        holds("the whole column without neighbours, and not one more", () -> {
            feasibleUpTo(loaded("D11155;"), 0, 5);
            feasibleUpTo(greatestColumn(), 0, 54);
        });
        holds("the bound, and not one more, beside an empty column", () -> {
            for (int b = 1; b <= 9; b++) {
                feasibleUpTo(loaded("D12" + b + FULL + ";;"), 0, b);
            }
        });
        holds("one more for each bucket of the neighbour", () -> {
            for (int n = 1; n <= 9; n++) {
                feasibleUpTo(loaded("D122" + FULL + ";" + n + "5;"), 0, n + 2);
            }
        });
        holds("the neighbour of the neighbour counts too", () -> {
            feasibleUpTo(loaded("D131" + FULL + ";" + FULL + ";;"), 0, 2);
            feasibleUpTo(loaded("D131" + FULL + ";" + FULL + ";15;"), 0, 3);
        });
        holds("the way round an empty column does not help", () ->
                feasibleUpTo(loaded("D221" + FULL + ";;" + FULL + ";" + FULL + ";"), 0, 1));
        holds("what was drawn already is not drawn again", () -> {
            CaveDraw x = loaded("D12155;55;");
            x.draw(1);
            equal(x.bucketsFor(0, 2), 2);
            equal(x.bucketsFor(0, 3), 4);
        });
        holds("nothing from an empty column", () -> feasibleUpTo(loaded("D121;95;"), 0, 0));
    }

    private void nothingHungMeanwhile() {
        sentence("(Nothing is hung or released meanwhile.)");
        holds("nothing from a hung drawpoint", () -> {
            CaveDraw x = loaded("D11155;");
            x.hang(0);
            feasibleUpTo(x, 0, 0);
        });
        holds("the bound beside a hung neighbour", () -> {
            CaveDraw x = loaded("D12395;95;");
            x.hang(1);
            feasibleUpTo(x, 0, 3);
        });
        holds("a hung neighbour that is ahead lets more", () -> {
            CaveDraw x = loaded("D12395;95;");
            drawTimes(x, 1, 2);
            x.hang(1);
            feasibleUpTo(x, 0, 5);
        });
        holds("a hung drawpoint two steps away", () -> {
            CaveDraw x = loaded("D131" + FULL + ";" + FULL + ";" + FULL + ";");
            x.hang(2);
            feasibleUpTo(x, 0, 2);
            feasibleUpTo(x, 1, 1);
            feasibleUpTo(x, 2, 0);
        });
        holds("a drawpoint that is released counts again", () -> {
            CaveDraw x = loaded("D12395;95;");
            x.hang(1);
            x.release(1);
            feasibleUpTo(x, 0, 9);
        });
    }

    // ---- the methods

    private void isReady() {
        promise("22 isReady");
        sentence("Returns true if it is.");
        holds("true of the first and the last of 16", () -> {
            CaveDraw x = loaded(alike(4, 4, 1, "15"));
            equal(x.isReady(0), true);
            equal(x.isReady(15), true);
        });
        holds("false of an empty, a hung and a blocked one", () -> {
            CaveDraw x = loaded("D141;15;;95;");
            x.hang(1);
            x.draw(3);
            for (int p = 0; p < 4; p++) {
                equal(x.isReady(p), false);
            }
        });
        refusesUnknownPoints("isReady", (x, p) -> x.isReady(p));
    }

    private void blockers() {
        promise("23 blockers");
        sentence("Returns these neighbours as a bit set.");
        holds("0 where none blocks", () -> equal(new CaveDraw().blockers(0), 0));
        holds("0 of a drawpoint without neighbours", () -> {
            CaveDraw x = loaded("D11195;");
            x.draw(0);
            equal(x.blockers(0), 0);
        });
        holds("the drawpoint 0 is the lowest bit", () -> {
            CaveDraw x = loaded("D121;95;");
            x.draw(1);
            equal(x.blockers(1), 1);
        });
        holds("the drawpoint 15 is the highest bit", () -> {
            CaveDraw x = loaded(alike(4, 4, 1, "15"));
            x.draw(14);
            x.draw(13);
            x.draw(10);
            equal(x.blockers(14), 1 << 15);
        });
        holds("four at once, and one less for each that follows", () -> {
            CaveDraw x = loaded(alike(3, 3, 1, "15"));
            x.draw(4);
            equal(x.blockers(4), 2 + 8 + 32 + 128);
            x.draw(1);
            equal(x.blockers(4), 8 + 32 + 128);
            x.draw(3);
            equal(x.blockers(4), 32 + 128);
            x.draw(5);
            equal(x.blockers(4), 128);
            x.draw(7);
            equal(x.blockers(4), 0);
        });
        sentence("`p`: drawpoint (it may be hung, and its column may be empty)");
        holds("it is hung", () -> {
            CaveDraw x = loaded("D12195;95;");
            x.draw(0);
            x.hang(0);
            equal(x.blockers(0), 2);
        });
        holds("its column is empty", () -> {
            CaveDraw x = loaded("D12115;95;");
            x.draw(0);
            equal(x.blockers(0), 2);
        });
        holds("it is hung and its column is empty and it was never drawn", () -> {
            CaveDraw x = new CaveDraw();
            x.hang(0);
            equal(x.blockers(0), 0);
        });
        holds("a hung neighbour and an empty one block", () -> {
            CaveDraw x = loaded("D131;95;95;");
            x.draw(1);
            x.hang(2);
            equal(x.blockers(1), 1 + 4);
        });
        refusesUnknownPoints("blockers", (x, p) -> x.blockers(p));
    }

    private void slack() {
        promise("24 slack");
        sentence("Returns the slack.");
        holds("0 where the drawpoint is not ready", () -> equal(new CaveDraw().slack(3), 0));
        holds("as many buckets as can be drawn then", () -> {
            CaveDraw x = used();
            x.undo();
            for (int p = 0; p < 4; p++) {
                int n = x.slack(p);
                drawTimes(x, p, n);
                equal(x.isReady(p), false);
                for (int i = 0; i < n; i++) {
                    x.undo();
                }
            }
        });
        refusesUnknownPoints("slack", (x, p) -> x.slack(p));
    }

    private void nextByOrder() {
        promise("25 nextByOrder");
        sentence("Returns the next drawpoint by order; NONE if no drawpoint is ready.");
        holds("NONE of a new object", () -> equal(new CaveDraw().nextByOrder(), NONE));
        holds("NONE where all are hung", () -> {
            CaveDraw x = loaded(alike(4, 4, 1, "15"));
            for (int p = 0; p < 16; p++) {
                equal(x.nextByOrder(), p);
                x.hang(p);
            }
            equal(x.nextByOrder(), NONE);
        });
        holds("NONE where the bound stops all", () -> {
            CaveDraw x = loaded("D12195;;");
            equal(x.nextByOrder(), 0);
            x.draw(0);
            equal(x.nextByOrder(), NONE);
        });
        holds("NONE where all is drawn", () -> {
            CaveDraw x = loaded("D11115;");
            equal(x.nextByOrder(), 0);
            x.draw(0);
            equal(x.nextByOrder(), NONE);
        });
    }

    private void orderAhead() {
        promise("26 orderAhead");
        sentence("Returns the drawpoint; NONE if there are not so many.");
        holds("the last bucket, and none behind it", () -> {
            CaveDraw x = loaded("D12951;22;");
            equal(x.orderAhead(6) != NONE, true);
            equal(x.orderAhead(7), NONE);
        });
        holds("NONE where nothing is ready", () -> equal(new CaveDraw().orderAhead(0), NONE));
        holds("NONE behind the bucket where the bound stops all", () -> {
            CaveDraw x = loaded("D12395;;");
            equal(x.orderAhead(2), 0);
            equal(x.orderAhead(3), NONE);
        });
        holds("every bucket comes as drawByOrder draws it", () -> {
            CaveDraw x = loaded(alike(2, 2, 2, "9192"));
            CaveDraw y = loaded(alike(2, 2, 2, "9192"));
            for (int i = 0; i < 72; i++) {
                int p = x.orderAhead(i);
                int before = y.drawn(p);
                y.drawByOrder(1);
                equal(y.drawn(p), before + 1);
            }
            equal(x.orderAhead(72), NONE);
        });
        sentence("`i`: index of the bucket, 0 for the first one, 0 to 99");
        holds("0 is the next drawpoint by order", () -> {
            CaveDraw x = used();
            equal(x.orderAhead(0), x.nextByOrder());
        });
        holds("99 is the hundredth bucket", () -> {
            equal(loaded("D12899999999;99999999;").orderAhead(71) != NONE, true);
            // 54 + 45 buckets are one too few, 54 + 46 are enough.
            equal(loaded("D129" + FULL + ";9192939495;").orderAhead(98) != NONE, true);
            equal(loaded("D129" + FULL + ";9192939495;").orderAhead(99), NONE);
            equal(loaded("D129" + FULL + ";919293949511;").orderAhead(99) != NONE, true);
        });
    }

    private void orderAheadRefuses() {
        sentence("Throws `IllegalArgumentException` if i is out of range");
        for (int i : new int[] {-1, 100, NONE, Integer.MIN_VALUE, Integer.MAX_VALUE}) {
            refuses("orderAhead(" + i + ")", ARGUMENT, BoundarySuite::used,
                    x -> x.orderAhead(i));
        }
        refuses("orderAhead(100) where nothing is ready", ARGUMENT, CaveDraw::new,
                x -> x.orderAhead(100));
    }

    private void bucketsToWaste() {
        promise("27 bucketsToWaste");
        sentence("Returns how many buckets come from the column before the first bucket with a"
                + " grade less than g; NONE if there is no such bucket.");
        holds("0 where the next bucket is waste", () ->
                equal(loaded("D11195;").bucketsToWaste(0, 6), 0));
        holds("a grade of just g is no waste", () -> {
            equal(loaded("D11195;").bucketsToWaste(0, 5), NONE);
            equal(loaded("D1119514;").bucketsToWaste(0, 5), 9);
        });
        holds("NONE of an empty column", () -> equal(new CaveDraw().bucketsToWaste(0, 9), NONE));
        holds("NONE of a column that was drawn empty", () -> {
            CaveDraw x = loaded("D11110;");
            equal(x.bucketsToWaste(0, 1), 0);
            x.draw(0);
            equal(x.bucketsToWaste(0, 1), NONE);
        });
        holds("45 where only the last of six slices is waste", () ->
                equal(loaded("D119999999999990;").bucketsToWaste(0, 1), 45));
        holds("the first waste counts, not the worst", () ->
                equal(loaded("D11199281490;").bucketsToWaste(0, 9), 9));
        holds("rich ore behind waste does not count", () ->
                equal(loaded("D111191119;").bucketsToWaste(0, 5), 1));
        holds("one less for each bucket that is drawn", () -> {
            CaveDraw x = loaded("D1113910;");
            for (int due = 3; due >= 0; due--) {
                equal(x.bucketsToWaste(0, 1), due);
                x.draw(0);
            }
        });
        holds("every drawpoint has its own", () -> {
            CaveDraw x = loaded("D22119;2910;3920;4930;");
            equal(x.bucketsToWaste(0, 1), NONE);
            for (int p = 1; p < 4; p++) {
                equal(x.bucketsToWaste(p, 1), p + 1);
            }
            equal(loaded("D441" + ";".repeat(15) + "2910;").bucketsToWaste(15, 9), 2);
        });
        holds("a hung drawpoint has its waste too", () -> {
            CaveDraw x = loaded("D1113910;");
            x.hang(0);
            equal(x.bucketsToWaste(0, 1), 3);
        });
    }

    private void bucketsToWasteRefuses() {
        sentence("`g`: grade, 1 to 9");
        holds("1 finds the grade 0 alone", () -> {
            equal(loaded("D1111110;").bucketsToWaste(0, 1), 1);
            equal(loaded("D11111;").bucketsToWaste(0, 1), NONE);
        });
        holds("9 finds all but the grade 9", () -> {
            equal(loaded("D1111918;").bucketsToWaste(0, 9), 1);
            equal(loaded("D11119;").bucketsToWaste(0, 9), NONE);
        });
        refusesUnknownPoints("bucketsToWaste", (x, p) -> x.bucketsToWaste(p, 5));
        sentence("Throws `IllegalArgumentException` if g is out of range");
        for (int g : new int[] {0, 10, -1, Integer.MIN_VALUE, Integer.MAX_VALUE}) {
            refuses("bucketsToWaste(0, " + g + ")", ARGUMENT, BoundarySuite::used,
                    x -> x.bucketsToWaste(0, g));
        }
    }

    private void bucketsFor() {
        promise("28 bucketsFor");
        sentence("Returns the fewest buckets (from all drawpoints together, those from p included)"
                + " after which the drawn number of a drawpoint can be greater by exactly k.");
        holds("k where nothing else is needed", () -> {
            equal(loaded("D11155;").bucketsFor(0, 5), 5);
            equal(loaded("D12595;95;").bucketsFor(0, 5), 5);
        });
        holds("one more where the bound is passed by one", () -> {
            equal(loaded("D12595;95;").bucketsFor(0, 6), 7);
            equal(loaded(alike(3, 3, 1, "95")).bucketsFor(4, 2), 6);
        });
        holds("the neighbours of the neighbours are needed too", () ->
                equal(loaded(alike(1, 4, 1, "95")).bucketsFor(0, 4), 4 + 3 + 2 + 1));
        holds("a drawpoint is needed once, whatever ways lead to it", () ->
                equal(loaded(alike(2, 2, 1, "95")).bucketsFor(0, 3), 3 + 2 + 2 + 1));
        holds("a neighbour that is far enough is not needed", () -> {
            CaveDraw x = loaded(alike(1, 2, 2, "95"));
            drawTimes(x, 1, 2);
            equal(x.bucketsFor(0, 4), 4);
            equal(x.bucketsFor(0, 5), 6);
        });
        sentence("`k`: 1 to 54");
        holds("1 is taken", () -> equal(greatestColumn().bucketsFor(0, 1), 1));
        holds("54 is taken, alone and with neighbours", () -> {
            equal(greatestColumn().bucketsFor(0, 54), 54);
            equal(loaded(alike(1, 2, 9, FULL)).bucketsFor(0, 54), 54 + 45);
            equal(loaded(alike(2, 4, 1, FULL)).bucketsFor(0, 54), 8 * 54 - 16);
        });
        holds("54 where more was drawn before", () -> {
            CaveDraw x = greatestColumn();
            x.drawByOrder(9);
            x.addSlice(0, 9, 9);
            equal(x.bucketsFor(0, 54), 54);
        });
    }

    private void bucketsForIsNone() {
        sentence("Returns the number of buckets; NONE if a draw of k buckets from p is not"
                + " feasible.");
        holds("the column has one too few", () -> {
            equal(loaded("D11155;").bucketsFor(0, 6), NONE);
            equal(loaded("D119919293949586;").bucketsFor(0, 54), NONE);
        });
        holds("the column is empty", () -> equal(new CaveDraw().bucketsFor(0, 1), NONE));
        holds("the drawpoint is hung", () -> {
            CaveDraw x = loaded("D11155;");
            x.hang(0);
            equal(x.bucketsFor(0, 1), NONE);
        });
        holds("a neighbour has one too few", () -> {
            equal(loaded("D12195;25;").bucketsFor(0, 3), 5);
            equal(loaded("D12195;25;").bucketsFor(0, 4), NONE);
        });
        holds("the last of a row has one too few", () -> {
            equal(loaded("D14195;95;95;15;").bucketsFor(0, 4), 10);
            equal(loaded("D14195;95;95;15;").bucketsFor(0, 5), NONE);
        });
        holds("a neighbour that is needed is hung", () -> {
            CaveDraw x = loaded("D12195;95;");
            x.hang(1);
            equal(x.bucketsFor(0, 1), 1);
            equal(x.bucketsFor(0, 2), NONE);
        });
        refusesUnknownPoints("bucketsFor", (x, p) -> x.bucketsFor(p, 1));
    }

    private void bucketsForRefuses() {
        sentence("Throws `IllegalArgumentException` if k is out of range");
        for (int k : new int[] {0, 55, -1, Integer.MIN_VALUE, Integer.MAX_VALUE}) {
            refuses("bucketsFor(0, " + k + ")", ARGUMENT, BoundarySuite::used,
                    x -> x.bucketsFor(0, k));
        }
        refuses("bucketsFor(0, 55) of the greatest column", ARGUMENT,
                () -> loaded("D119919293949596;"), x -> x.bucketsFor(0, 55));
    }

    private void mostFrom() {
        promise("29 mostFrom");
        sentence("Returns the greatest k such that a draw of k buckets from a drawpoint is"
                + " feasible.");
        holds("bucketsFor answers for just this k, and for none above it", () -> {
            CaveDraw x = used();
            for (int p = 0; p < 4; p++) {
                feasibleUpTo(x, p, x.mostFrom(p));
            }
        });
        sentence("Returns k; 0 if there is none.");
        holds("0 of an empty column", () -> equal(new CaveDraw().mostFrom(0), 0));
        holds("0 of a hung drawpoint", () -> {
            CaveDraw x = loaded("D11195;");
            x.hang(0);
            equal(x.mostFrom(0), 0);
        });
        holds("0 where the bound is met and the neighbour has nothing", () -> {
            CaveDraw x = loaded("D12195;;");
            equal(x.mostFrom(0), 1);
            x.draw(0);
            equal(x.mostFrom(0), 0);
        });
        holds("more than 0 where it is not ready, but its neighbour can follow", () -> {
            CaveDraw x = loaded("D12195;15;");
            x.draw(0);
            equal(x.isReady(0), false);
            equal(x.mostFrom(0), 1);
        });
        holds("53 where the greatest column has one bucket less", () -> {
            CaveDraw x = greatestColumn();
            x.draw(0);
            equal(x.mostFrom(0), 53);
        });
        holds("the last drawpoint of the greatest grid", () -> {
            CaveDraw x = loaded(alike(4, 4, 1, "15"));
            equal(x.mostFrom(15), 1);
            equal(loaded(alike(4, 4, 2, "")).mostFrom(15), 0);
        });
        holds("54 of the greatest column, alone and with neighbours", () -> {
            equal(greatestColumn().mostFrom(0), 54);
            equal(loaded(alike(2, 4, 1, FULL)).mostFrom(0), 54);
        });
        holds("54 where more was drawn before", () -> {
            CaveDraw x = greatestColumn();
            x.drawByOrder(9);
            x.addSlice(0, 9, 9);
            equal(x.mostFrom(0), 54);
        });
        refusesUnknownPoints("mostFrom", (x, p) -> x.mostFrom(p));
    }

    // ---- the best sequence

    /** The drawpoints of the best sequence, and then its sum. */
    private static void bestIs(CaveDraw x, int... due) {
        int n = due.length - 1;
        for (int i = 0; i <= n; i++) {
            equal(x.bestSequence(n, i), due[i]);
        }
    }

    private void bestSequence() {
        promise("30 bestSequence");
        sentence("Finds the best sequence of n buckets: each from a drawpoint that is ready at that"
                + " time, with the greatest sum of grades; among several the sequence of drawpoints"
                + " that is lexicographically smallest.");
        holds("a poor bucket opens the way to a rich one", () ->
                bestIs(loaded("D1291019;14;"), 0, 0, 9));
        holds("a poor bucket of a neighbour opens the way too", () -> {
            bestIs(loaded("D12199;90;"), 0, 1, 9);
            bestIs(loaded("D12199;90;"), 0, 1, 0, 18);
        });
        holds("what the bound blocks is not drawn", () -> {
            CaveDraw x = loaded("D13199;92;91;");
            bestIs(x, 0, 1, 11);
            x.draw(0);
            bestIs(x, 1, 2);
            bestIs(x, 1, 0, 11);
        });
        holds("the bound counts anew for each sequence that is tried", () -> {
            // Every sequence that begins with 1 is tried before the best ones, with 2 alone.
            CaveDraw x = loaded("D132;91;99;");
            bestIs(x, 2, 2, 18);
            bestIs(x, 1, 2, 2, 19);
            bestIs(x, 1, 2, 2, 2, 28);
        });
        holds("a rich bucket behind two that open the way", () -> {
            // 0 has drawn 3 more than 1 and 2, which hinder it both.
            CaveDraw x = loaded("D2233019;95;12;;");
            drawTimes(x, 0, 3);
            bestIs(x, 1, 1, 10);
            bestIs(x, 1, 2, 0, 16);
            bestIs(x, 1, 1, 2, 0, 21);
        });
        holds("what is hung is not drawn", () -> {
            CaveDraw x = loaded("D13999;92;91;");
            x.hang(0);
            bestIs(x, 1, 1, 4);
        });
        holds("the greatest sum goes before the smallest sequence", () ->
                bestIs(loaded("D14915;15;15;16;"), 3, 6));
        holds("poor buckets at first are worth a rich one at the end, if it can come", () -> {
            bestIs(loaded("D139111119;15;16;"), 1, 2, 11);
            bestIs(loaded("D139111119;15;16;"), 0, 0, 0, 2, 17);
        });
    }

    private void bestAmongSeveral() {
        holds("of equal ones the drawpoints 0, 1, 2, 3 of 16", () ->
                bestIs(loaded(alike(4, 4, 9, "15")), 0, 1, 2, 3, 20));
        holds("of equal ones four times the drawpoint 0", () ->
                bestIs(loaded(alike(3, 3, 9, "95")), 0, 0, 0, 0, 20));
        holds("the last of 16, where it alone is richer", () -> {
            String sixteen = alike(4, 4, 9, "45");
            bestIs(loaded(sixteen.substring(0, sixteen.length() - 3) + "46;"), 15, 15, 15, 15, 24);
        });
        holds("the same buckets in another order: the smaller drawpoint first", () -> {
            bestIs(loaded("D13914;;19;"), 0, 2, 13);
            bestIs(loaded("D13919;;14;"), 0, 2, 13);
        });
        holds("buckets of the grade 0 make a sum of 0", () -> {
            bestIs(loaded("D12910;20;"), 0, 0);
            bestIs(loaded("D12910;20;"), 0, 1, 1, 0);
        });
        sentence("`i`: 0 to n - 1 for the drawpoint of the bucket i of the sequence, or n for the"
                + " sum of grades");
        holds("every i of every n", () -> {
            CaveDraw x = loaded("D22999;98;97;96;");
            for (int n = 1; n <= 4; n++) {
                for (int i = 0; i < n; i++) {
                    equal(x.bestSequence(n, i), 0);
                }
                equal(x.bestSequence(n, n), 9 * n);
            }
        });
        holds("the greatest sum is 36", () ->
                equal(loaded("D11999;").bestSequence(4, 4), 36));
    }

    private void noBestSequence() {
        sentence("Returns that number; NONE if no sequence of n buckets is possible.");
        holds("NONE of a new object, for every n and i", () -> {
            CaveDraw x = new CaveDraw();
            for (int n = 1; n <= 4; n++) {
                for (int i = 0; i <= n; i++) {
                    equal(x.bestSequence(n, i), NONE);
                }
            }
        });
        holds("NONE where there is one bucket too few", () -> {
            for (int left = 1; left <= 3; left++) {
                CaveDraw x = loaded("D111" + left + "5;");
                equal(x.bestSequence(left, left), 5 * left);
                equal(x.bestSequence(left + 1, left + 1), NONE);
                equal(x.bestSequence(left + 1, 0), NONE);
            }
        });
        holds("NONE where the bound stops all one bucket too soon", () -> {
            for (int b = 1; b <= 3; b++) {
                CaveDraw x = loaded("D12" + b + "95;;");
                equal(x.bestSequence(b, b), 5 * b);
                equal(x.bestSequence(b + 1, b + 1), NONE);
                equal(x.bestSequence(b + 1, b), NONE);
            }
        });
        holds("NONE where all is hung", () -> {
            CaveDraw x = single();
            x.hang(0);
            equal(x.bestSequence(1, 0), NONE);
            equal(x.bestSequence(1, 1), NONE);
        });
        holds("a longer question before leaves nothing to a shorter one", () -> {
            CaveDraw x = loaded("D12925;14;");
            bestIs(x, 0, 0, 1, 14);
            bestIs(x, NONE, NONE, NONE, NONE, NONE);
            bestIs(x, 0, 5);
        });
    }

    private void bestSequenceRefuses() {
        sentence("`n`: number of buckets, 1 to 4");
        holds("1 is taken", () -> equal(greatestColumn().bestSequence(1, 1), 1));
        holds("4 is taken", () -> equal(greatestColumn().bestSequence(4, 4), 4));
        sentence("Throws `IllegalArgumentException` if n or i is out of range");
        int[][] wrong = {{0, 0}, {5, 0}, {5, 5}, {-1, -1}, {-1, 0}, {1, -1}, {4, -1},
            {1, 2}, {2, 3}, {3, 4}, {4, 5}, {1, 4}, {Integer.MIN_VALUE, 0},
            {Integer.MAX_VALUE, 0}, {Integer.MAX_VALUE, Integer.MAX_VALUE},
            {2, Integer.MIN_VALUE}, {2, Integer.MAX_VALUE}};
        for (int[] w : wrong) {
            refuses("bestSequence(" + w[0] + ", " + w[1] + ")", ARGUMENT, BoundarySuite::used,
                    x -> x.bestSequence(w[0], w[1]));
        }
        refuses("bestSequence(5, 0) where nothing is ready", ARGUMENT, CaveDraw::new,
                x -> x.bestSequence(5, 0));
    }

    // ---- origins

    private void origins() {
        promise("31 origins");
        sentence("Tells from which columns buckets with given grades can come: those that have at"
                + " least m buckets, and whose next m buckets have these grades in this order.");
        holds("just m buckets are enough, one less is not", () -> {
            for (int m = 1; m <= 8; m++) {
                CaveDraw x = loaded("D12" + m + m + "0;" + (m + 1) + "0;");
                equal(x.origins(m, 0), 3);
                equal(x.origins(m + 1, 0), 2);
            }
        });
        holds("none of empty columns", () -> equal(new CaveDraw().origins(1, 0), 0));
        holds("the grades go on from slice to slice", () -> {
            CaveDraw x = loaded("D112111213141516;");
            equal(x.origins(6, 123456), 1);
            equal(x.origins(6, 123457), 0);
            equal(x.origins(6, 654321), 0);
            equal(x.origins(7, 123456), 0);
        });
        holds("the next buckets count, not those that were drawn or come later", () -> {
            CaveDraw x = loaded("D112111213;");
            equal(x.origins(2, 23), 0);
            x.draw(0);
            equal(x.origins(2, 23), 1);
            equal(x.origins(2, 12), 0);
        });
        holds("the first and the last grade count", () -> {
            CaveDraw x = loaded("D1125715;");
            equal(x.origins(6, 777775), 1);
            equal(x.origins(6, 777774), 0);
            equal(x.origins(6, 677775), 0);
        });
        holds("a hung and a blocked drawpoint can be origins", () -> {
            CaveDraw x = loaded("D12195;95;");
            x.hang(0);
            x.draw(1);
            equal(x.origins(1, 5), 3);
        });
        sentence("Returns these drawpoints as a bit set.");
        holds("0 where there is none", () -> equal(greatestColumn().origins(1, 2), 0));
        holds("the drawpoint 0 is the lowest bit, 15 the highest one", () -> {
            equal(loaded("D441" + "17;" + ";".repeat(15)).origins(1, 7), 1);
            equal(loaded("D441" + ";".repeat(15) + "17;").origins(1, 7), 1 << 15);
        });
        holds("all 16 at once", () -> equal(loaded(alike(4, 4, 1, "17")).origins(1, 7), 65535));
    }

    private void originsDigits() {
        sentence("`m`: number of buckets, 1 to 9");
        holds("1 is taken", () -> equal(loaded("D11115;").origins(1, 5), 1));
        holds("9 is taken", () -> equal(loaded("D11195;").origins(9, 555555555), 1));
        sentence("`grades`: the grades as a number of m decimal digits (0 or greater, leading zeros"
                + " are grades), the first bucket first");
        holds("0 is m zeros", () -> {
            CaveDraw x = loaded("D11190;");
            for (int m = 1; m <= 9; m++) {
                equal(x.origins(m, 0), 1);
            }
        });
        holds("one leading zero, and all but one", () -> {
            equal(loaded("D1111015;").origins(2, 5), 1);
            equal(loaded("D1118015;").origins(9, 5), 1);
            equal(loaded("D1118015;").origins(8, 5), 0);
            equal(loaded("D11115;").origins(2, 5), 0);
        });
        holds("m nines are taken for every m", () -> {
            CaveDraw x = loaded("D11199;");
            int nines = 0;
            for (int m = 1; m <= 9; m++) {
                nines = nines * 10 + 9;
                equal(x.origins(m, nines), 1);
            }
        });
    }

    private void originsRefuses() {
        sentence("Throws `IllegalArgumentException` if m is out of range, or if grades is negative"
                + " or has more than m digits");
        for (int m : new int[] {0, 10, -1, Integer.MIN_VALUE, Integer.MAX_VALUE}) {
            refuses("origins(" + m + ", 0)", ARGUMENT, BoundarySuite::used, x -> x.origins(m, 0));
        }
        for (int grades : new int[] {-1, -5, Integer.MIN_VALUE}) {
            refuses("origins(9, " + grades + ")", ARGUMENT, BoundarySuite::used,
                    x -> x.origins(9, grades));
        }
        int tooMany = 1;
        for (int m = 1; m <= 9; m++) {
            tooMany *= 10;
            int digits = m;
            int grades = tooMany;
            refuses("origins(" + m + ", " + grades + ")", ARGUMENT, BoundarySuite::used,
                    x -> x.origins(digits, grades));
        }
        refuses("origins(9, the greatest int)", ARGUMENT, BoundarySuite::used,
                x -> x.origins(9, Integer.MAX_VALUE));
        refuses("origins(1, the greatest int) of empty columns", ARGUMENT, CaveDraw::new,
                x -> x.origins(1, Integer.MAX_VALUE));
    }

    private void questions() {
        promise("22 to 31");
        sentence("questions; they change nothing");
        changesNothing("isReady(0)", BoundarySuite::used, x -> x.isReady(0));
        changesNothing("blockers(0)", BoundarySuite::used, x -> x.blockers(0));
        changesNothing("slack(0)", BoundarySuite::used, x -> x.slack(0));
        changesNothing("nextByOrder()", BoundarySuite::used, x -> x.nextByOrder());
        changesNothing("orderAhead(0)", BoundarySuite::used, x -> x.orderAhead(0));
        changesNothing("orderAhead(99)", BoundarySuite::used, x -> x.orderAhead(99));
        changesNothing("bucketsToWaste(0, 9)", BoundarySuite::used, x -> x.bucketsToWaste(0, 9));
        changesNothing("bucketsFor(0, 1)", BoundarySuite::used, x -> x.bucketsFor(0, 1));
        changesNothing("bucketsFor(0, 54)", BoundarySuite::used, x -> x.bucketsFor(0, 54));
        changesNothing("mostFrom(0)", BoundarySuite::used, x -> x.mostFrom(0));
        changesNothing("bestSequence(1, 0)", BoundarySuite::used, x -> x.bestSequence(1, 0));
        changesNothing("bestSequence(4, 4)", BoundarySuite::used, x -> x.bestSequence(4, 4));
        changesNothing("bestSequence(4, 4) of 16", BoundarySuite::great,
                x -> x.bestSequence(4, 4));
        changesNothing("origins(1, 5)", BoundarySuite::used, x -> x.origins(1, 5));
        changesNothing("origins(9, 0)", BoundarySuite::used, x -> x.origins(9, 0));
        holds("a question asked twice answers the same", () -> {
            CaveDraw x = used();
            equal(answers(x), answers(x));
        });
    }

    private static String answers(CaveDraw x) {
        StringBuilder said = new StringBuilder();
        said.append(x.nextByOrder()).append(' ').append(x.orderAhead(5));
        said.append(' ').append(x.bestSequence(4, 4)).append(' ').append(x.origins(1, 1));
        for (int p = 0; p < 4; p++) {
            said.append(' ').append(x.isReady(p)).append(x.blockers(p)).append(x.slack(p));
            said.append(' ').append(x.bucketsToWaste(p, 9)).append(' ').append(x.mostFrom(p));
            said.append(' ').append(x.bucketsFor(p, 2));
        }
        return said.toString();
    }
}
