/** The boundaries of scripts and simulations: the section SCRIPTS, promises 32 and 33. */
public final class ScriptBoundaryTests extends BoundarySuite {
    private static final String FULL = "919293949596";

    public static void main(String[] args) {
        new ScriptBoundaryTests().play();
    }

    @Override
    void run() {
        groups();
        drawing();
        hanging();
        releasing();
        slack();
        grade();
        byOrder();
        otherGroups();
        results();
        onACopy();
        runScript();
        runScriptRefuses();
        rounds();
        numbers();
        hangingInRounds();
        drawingInRounds();
        simulateSums();
        simulateSeeds();
        simulateRefuses();
    }

    // ---- the section SCRIPTS

    /** A single command; it succeeds if the script answers NONE and fails if it answers 0. */
    private static void command(CaveDraw x, int group, boolean succeeds) {
        equal(x.runScript(1, group), succeeds ? NONE : 0);
    }

    private void groups() {
        promise("SCRIPTS");
        sentence("A script has 1 to 4 commands. Each command is a group of four decimal digits d1"
                + " d2 d3 d4; the first command is the highest group of the number.");
        holds("one command, and four", () -> {
            CaveDraw x = greatestColumn();
            equal(x.runScript(1, 1001), NONE);
            equal(x.runScript(4, 1001_1002_1003_1004L), NONE);
        });
        holds("the highest group runs first", () -> {
            CaveDraw x = loaded("D11115;");
            equal(x.runScript(2, 1001_4000L), NONE);
            equal(x.runScript(2, 4000_1001L), 0);
            equal(x.runScript(2, 4001_1001L), NONE);
        });
        holds("the highest group of four is the number of 13 to 16 digits", () -> {
            CaveDraw x = loaded("D11145;");
            equal(x.runScript(4, 1001_4003_1001_4002L), NONE);
            equal(x.runScript(4, 1001_4003_1001_4001L), 3);
            equal(x.runScript(4, 1001_4003_1004_4001L), 2);
            equal(x.runScript(4, 1001_4002_1001_4002L), 1);
            equal(x.runScript(4, 1005_4003_1001_4002L), 0);
        });
        holds("groups that the number is too short for are 0000, and fail", () -> {
            CaveDraw x = greatestColumn();
            equal(x.runScript(2, 1001), 0);
            equal(x.runScript(4, 1001_1001_1001L), 0);
            equal(x.runScript(3, 0), 0);
        });
        sentence("Let p be the number d2 d3.");
        holds("p is 00 and 15", () -> {
            CaveDraw x = loaded("D441" + "14;" + ";".repeat(14) + "17;");
            command(x, 5004, true);
            command(x, 5005, false);
            command(x, 5157, true);
            command(x, 5158, false);
            equal(x.runScript(2, 1151_4150L), NONE);
        });
    }

    private void drawing() {
        sentence("1 p n: draws n buckets from drawpoint p (n from 1 to 9); fails before a bucket if"
                + " p is not ready.");
        holds("n is 1 and 9", () -> {
            command(greatestColumn(), 1001, true);
            command(greatestColumn(), 1009, true);
            equal(greatestColumn().runScript(2, 1009_5002L), NONE);
            equal(greatestColumn().runScript(2, 1008_5002L), 1);
        });
        holds("n of 0 fails", () -> command(greatestColumn(), 1000, false));
        holds("as many as the column has, and one more", () -> {
            command(loaded("D11155;"), 1005, true);
            command(loaded("D11155;"), 1006, false);
        });
        holds("as many as the bound allows, and one more", () -> {
            command(loaded("D12395;95;"), 1003, true);
            command(loaded("D12395;95;"), 1004, false);
            equal(loaded("D12395;95;").runScript(3, 1003_1011_1001L), NONE);
            equal(loaded("D12395;95;").runScript(3, 1003_1011_1002L), 2);
        });
        holds("p is empty, hung or blocked", () -> {
            CaveDraw x = loaded("D131;95;95;");
            x.draw(1);
            x.hang(2);
            command(x, 1001, false);
            command(x, 1011, false);
            command(x, 1021, false);
        });
    }

    private void hanging() {
        sentence("2 p 0: hangs drawpoint p; fails if it is hung.");
        holds("once, and not twice", () -> {
            CaveDraw x = single();
            command(x, 2000, true);
            equal(x.runScript(2, 2000_2000L), 1);
            x.hang(0);
            command(x, 2000, false);
        });
        holds("nothing can be drawn from it then", () ->
                equal(single().runScript(2, 2000_1001L), 1));
        holds("again behind a release", () ->
                equal(single().runScript(3, 2000_3000_2000L), NONE));
        holds("the first and the last of 16", () ->
                equal(loaded(alike(4, 4, 1, "")).runScript(2, 2000_2150L), NONE));
        holds("a last digit of 1 or 9 fails", () -> {
            command(single(), 2001, false);
            command(single(), 2009, false);
        });
    }

    private void releasing() {
        sentence("3 p 0: releases drawpoint p; fails if it is not hung.");
        holds("once, and not twice", () -> {
            CaveDraw x = single();
            command(x, 3000, false);
            x.hang(0);
            command(x, 3000, true);
            equal(x.runScript(2, 3000_3000L), 1);
        });
        holds("it can be drawn from then", () -> {
            CaveDraw x = single();
            x.hang(0);
            equal(x.runScript(2, 3000_1001L), NONE);
        });
        holds("the first and the last of 16", () -> {
            CaveDraw x = loaded(alike(4, 4, 1, ""));
            x.hang(0);
            x.hang(15);
            equal(x.runScript(2, 3000_3150L), NONE);
        });
        holds("a last digit of 1 or 9 fails", () -> {
            CaveDraw x = single();
            x.hang(0);
            command(x, 3001, false);
            command(x, 3009, false);
        });
    }

    private void slack() {
        sentence("4 p n: succeeds if the slack of drawpoint p is exactly n.");
        holds("every slack from 0 to 9, and none beside it", () -> {
            for (int n = 0; n <= 9; n++) {
                CaveDraw x = loaded("D111" + (n == 0 ? "" : n + "5") + ";");
                for (int asked = 0; asked <= 9; asked++) {
                    command(x, 4000 + asked, asked == n);
                }
            }
        });
        holds("a slack of 10 or more is no digit", () -> {
            CaveDraw ten = loaded("D1119515;");
            CaveDraw most = greatestColumn();
            for (int asked = 0; asked <= 9; asked++) {
                command(ten, 4000 + asked, false);
                command(most, 4000 + asked, false);
            }
        });
        holds("0 of a hung, an empty and a blocked drawpoint", () -> {
            CaveDraw x = loaded("D131;95;95;");
            x.draw(1);
            x.hang(2);
            equal(x.runScript(3, 4000_4010_4020L), NONE);
        });
    }

    private void grade() {
        sentence("5 p g: succeeds if the column of drawpoint p is not empty and its next bucket has"
                + " a grade of at least g.");
        holds("every grade from 0 to 9 with every g", () -> {
            for (int grade = 0; grade <= 9; grade++) {
                CaveDraw x = loaded("D1111" + grade + ";");
                for (int g = 0; g <= 9; g++) {
                    command(x, 5000 + g, grade >= g);
                }
            }
        });
        holds("an empty column fails, also for g of 0", () -> command(new CaveDraw(), 5000, false));
        holds("a column that was drawn empty fails", () -> {
            equal(loaded("D11115;").runScript(2, 1001_5000L), 1);
        });
        holds("only the next bucket counts", () -> {
            command(loaded("D1111519;"), 5006, false);
            equal(loaded("D1111519;").runScript(2, 1001_5009L), NONE);
        });
        holds("a hung and a blocked drawpoint have a next bucket", () -> {
            CaveDraw x = loaded("D12195;95;");
            x.draw(0);
            x.hang(1);
            equal(x.runScript(2, 5005_5015L), NONE);
        });
    }

    private void byOrder() {
        sentence("6 0 x y: draws xy buckets by order (01 to 99); fails before a bucket if no"
                + " drawpoint is ready.");
        holds("01", () -> {
            command(greatestColumn(), 6001, true);
            command(new CaveDraw(), 6001, false);
        });
        holds("99, with just so many buckets and with one less", () -> {
            CaveDraw x = loaded(alike(1, 2, 9, FULL));
            command(x, 6099, true);
            x.drawByOrder(9);
            command(x, 6099, true);
            x.drawByOrder(1);
            command(x, 6099, false);
            command(x, 6098, true);
        });
        holds("00 fails", () -> command(greatestColumn(), 6000, false));
        holds("another second digit than 0 fails", () -> {
            for (int d2 = 1; d2 <= 9; d2++) {
                command(greatestColumn(), 6001 + 100 * d2, false);
            }
        });
        holds("it stops where the bound stops all", () -> {
            command(loaded("D12395;;"), 6003, true);
            command(loaded("D12395;;"), 6004, false);
        });
        holds("all are hung", () -> equal(single().runScript(2, 2000_6001L), 1));
        holds("10 is ten buckets, not a drawpoint", () ->
                equal(loaded("D1119515;").runScript(2, 6010_4000L), NONE));
    }

    private void otherGroups() {
        sentence("A command with a drawpoint that does not exist fails, and so does any other"
                + " group.");
        holds("the drawpoint behind the last one", () -> {
            for (int kind = 1; kind <= 5; kind++) {
                int last = kind == 1 ? 1 : 0;
                command(loaded("D11115;"), kind * 1000 + 10 + last, false);
                command(new CaveDraw(), kind * 1000 + 40 + last, false);
                command(loaded(alike(4, 4, 1, "15")), kind * 1000 + 160 + last, false);
            }
        });
        holds("the drawpoints 32 and 99", () -> {
            for (int kind = 1; kind <= 5; kind++) {
                int last = kind == 1 ? 1 : 0;
                command(loaded(alike(4, 4, 1, "15")), kind * 1000 + 320 + last, false);
                command(loaded(alike(4, 4, 1, "15")), kind * 1000 + 990 + last, false);
            }
        });
        holds("the first digits 0, 7, 8 and 9", () -> {
            for (int kind : new int[] {0, 7, 8, 9}) {
                for (int rest : new int[] {0, 1, 9, 10, 999}) {
                    command(loaded(alike(4, 4, 1, "15")), kind * 1000 + rest, false);
                }
            }
        });
    }

    private void results() {
        sentence("The result of a script is the index, from 0, of the first command that fails, or"
                + " NONE if all succeed.");
        holds("0 to 3, and NONE", () -> {
            CaveDraw x = greatestColumn();
            equal(x.runScript(4, 9999_1001_1001_1001L), 0);
            equal(x.runScript(4, 1001_9999_1001_1001L), 1);
            equal(x.runScript(4, 1001_1001_9999_1001L), 2);
            equal(x.runScript(4, 1001_1001_1001_9999L), 3);
            equal(x.runScript(4, 1001_1001_1001_1001L), NONE);
        });
        holds("the first of several", () ->
                equal(greatestColumn().runScript(4, 1001_9999_9999_9999L), 1));
        holds("of one command 0 or NONE", () -> {
            equal(greatestColumn().runScript(1, 9999), 0);
            equal(greatestColumn().runScript(1, 1001), NONE);
        });
    }

    private void onACopy() {
        sentence("The commands run on a copy of the state.");
        changesNothing("a script that draws", BoundarySuite::used, x -> x.runScript(1, 1001));
        changesNothing("a script that draws by order", BoundarySuite::used,
                x -> x.runScript(1, 6099));
        changesNothing("a script that hangs", BoundarySuite::used, x -> x.runScript(1, 2000));
        changesNothing("a script that releases", BoundarySuite::used, x -> x.runScript(1, 3030));
        changesNothing("a script that fails", BoundarySuite::used,
                x -> x.runScript(4, 2000_3030_6001_9999L));
        changesNothing("a script of 16 drawpoints", BoundarySuite::great,
                x -> x.runScript(4, 3150_1151_2000_6030L));
        holds("the same script answers the same again", () -> {
            CaveDraw x = loaded("D11155;");
            for (int i = 0; i < 3; i++) {
                equal(x.runScript(2, 1005_1001L), 1);
                equal(x.runScript(2, 2000_3000L), NONE);
            }
        });
    }

    // ---- runScript

    private void runScript() {
        promise("32 runScript");
        sentence("`n`: number of commands, 1 to 4");
        holds("1 is taken", () -> equal(greatestColumn().runScript(1, 1001), NONE));
        holds("4 is taken", () -> equal(greatestColumn().runScript(4, 1001100110011001L), NONE));
        sentence("`script`: the commands, a number of at most 4 * n digits (0 or more)");
        holds("0 is taken for every n", () -> {
            for (int n = 1; n <= 4; n++) {
                equal(new CaveDraw().runScript(n, 0), 0);
            }
        });
        holds("4 * n nines are taken for every n", () -> {
            long nines = 0;
            for (int n = 1; n <= 4; n++) {
                nines = nines * 10000 + 9999;
                equal(new CaveDraw().runScript(n, nines), 0);
            }
        });
        holds("more than an int holds is taken", () -> {
            equal(greatestColumn().runScript(3, 1001_1001_1001L), NONE);
            equal(greatestColumn().runScript(3, 1001_1001_4000L), 2);
        });
    }

    private void runScriptRefuses() {
        sentence("Throws `IllegalArgumentException` if n is out of range, or if script is negative"
                + " or has more than 4 * n digits");
        for (int n : new int[] {0, 5, -1, Integer.MIN_VALUE, Integer.MAX_VALUE}) {
            refuses("runScript(" + n + ", 1001)", ARGUMENT, BoundarySuite::used,
                    x -> x.runScript(n, 1001));
        }
        for (long script : new long[] {-1, -1001, Long.MIN_VALUE, Integer.MIN_VALUE}) {
            refuses("runScript(4, " + script + ")", ARGUMENT, BoundarySuite::used,
                    x -> x.runScript(4, script));
        }
        long tooMany = 1;
        for (int n = 1; n <= 4; n++) {
            tooMany *= 10000;
            int commands = n;
            long script = tooMany;
            refuses("runScript(" + n + ", " + script + ")", ARGUMENT, BoundarySuite::used,
                    x -> x.runScript(commands, script));
        }
        refuses("runScript(1, 10011001)", ARGUMENT, BoundarySuite::used,
                x -> x.runScript(1, 1001_1001));
        refuses("runScript(1, 2 to the 32nd + 1001)", ARGUMENT, BoundarySuite::used,
                x -> x.runScript(1, (1L << 32) + 1001));
        refuses("runScript(4, the greatest long)", ARGUMENT, BoundarySuite::used,
                x -> x.runScript(4, Long.MAX_VALUE));
    }

    // ---- simulate; what is due was found by another program, which follows the sentences

    private static void sums(String text, long seed, int... due) {
        for (int m = 1; m <= due.length; m++) {
            equal(loaded(text).simulate(seed, m), due[m - 1]);
        }
    }

    private void rounds() {
        promise("33 simulate");
        sentence("`m`: number of rounds, 1 to 100");
        holds("1 is taken", () -> equal(loaded("D11195;").simulate(3, 1), 5));
        holds("100 are taken, and the hundredth counts", () -> {
            String text = alike(2, 2, 9, "919191919191");
            equal(loaded(text).simulate(1, 99), 99);
            equal(loaded(text).simulate(1, 100), 100);
        });
    }

    private void numbers() {
        sentence("A long x starts as the seed. Each round first replaces x by x *"
                + " 6364136223846793005L + 1442695040888963407L (with long overflow), and r ="
                + " (int) (x >>> 33) is computed.");
        holds("the seed itself is not a number of a round", () -> {
            // The second seed is the number of the first round of the seed 0.
            sums("D11195;", 0, 5, 5, 5, 10, 15);
            sums("D11195;", 1442695040888963407L, 0, 0, 5, 10, 15);
        });
        holds("a number whose sign bit is set is as good as another", () -> {
            long seed = 7;
            for (int i = 0; i < 40; i++) {
                long x = seed * 6364136223846793005L + 1442695040888963407L;
                int r = (int) (x >>> 33);
                equal(loaded("D11195;").simulate(seed, 1), r % 4 == 0 ? 0 : 5);
                seed = x;
            }
        });
    }

    private void hangingInRounds() {
        sentence("If r % 4 is 0, drawpoint r / 4 % (number of drawpoints) is released if it is"
                + " hung, and hung if it is not.");
        holds("it hangs in the round 1 and is released in the round 3", () ->
                sums("D11195;", 2, 0, 0, 5, 5, 5));
        holds("it hangs in the round 2 and is released in the round 4", () ->
                sums("D11195;", 0, 5, 5, 5, 10, 15));
        holds("one that hangs before is released in the round 1", () -> {
            CaveDraw x = loaded("D11195;");
            x.hang(0);
            equal(x.simulate(2, 1), 5);
            equal(x.simulate(2, 2), 10);
            equal(x.simulate(2, 3), 10);
        });
        holds("where r % 4 is not 0 nothing changes", () -> {
            CaveDraw x = loaded("D11195;");
            x.hang(0);
            equal(x.simulate(3, 3), 0);
            x.release(0);
            equal(x.simulate(3, 3), 15);
        });
        holds("the drawpoint 0", () -> {
            equal(loaded("D22919;15;;;").simulate(17, 1), 5);
            equal(loaded("D22919;15;;;").simulate(3, 1), 9);
        });
        holds("the drawpoint 15 of 16", () -> {
            equal(loaded("D441" + ";".repeat(15) + "95;").simulate(14, 1), 0);
            sums("D449" + ";".repeat(15) + "95;", 47, 5, 10, 10, 10);
        });
    }

    private void drawingInRounds() {
        sentence("Then a bucket is drawn by order, if a drawpoint is ready.");
        holds("0 where none is ever ready", () -> {
            equal(new CaveDraw().simulate(1, 1), 0);
            equal(new CaveDraw().simulate(1, 100), 0);
        });
        holds("no more than there are", () -> equal(loaded("D11125;").simulate(3, 3), 10));
        holds("no more than the bound allows", () -> {
            equal(loaded("D12395;;").simulate(3, 3), 15);
            equal(loaded("D12295;;").simulate(3, 3), 10);
        });
        holds("a round without a bucket is followed by rounds with one", () ->
                sums("D11195;", 2, 0, 0, 5));
    }

    private void simulateSums() {
        sentence("Returns the sum of the grades of the buckets that are drawn in these rounds.");
        holds("what was drawn before does not count", () -> {
            CaveDraw x = loaded("D1119998;");
            drawTimes(x, 0, 9);
            equal(x.totalGrade(), 81);
            equal(x.simulate(3, 1), 8);
        });
        holds("buckets of the grade 0 make 0", () -> equal(loaded("D11190;").simulate(3, 3), 0));
        sentence("Simulates m rounds on a copy of the state.");
        changesNothing("simulate(2, 1)", BoundarySuite::used, x -> x.simulate(2, 1));
        changesNothing("simulate(2, 100)", BoundarySuite::used, x -> x.simulate(2, 100));
        changesNothing("simulate(2, 100) of 16", BoundarySuite::great, x -> x.simulate(2, 100));
        changesNothing("simulate(2, 100) of one", BoundarySuite::single, x -> x.simulate(2, 100));
        holds("the same call answers the same again", () -> {
            CaveDraw x = loaded("D11195;");
            equal(x.simulate(0, 5), 15);
            equal(x.simulate(0, 5), 15);
        });
    }

    private void simulateSeeds() {
        sentence("`seed`: any long");
        long[] seeds = {0, 1, -1, Long.MIN_VALUE, Long.MAX_VALUE, 6364136223846793005L,
            1L << 32, Integer.MIN_VALUE};
        int[][] due = {{9, 18, 123, 199, 208}, {9, 18, 206, 293, 293}, {9, 18, 134, 170, 170},
            {9, 18, 115, 169, 170}, {9, 18, 123, 279, 280}, {9, 18, 155, 208, 208},
            {9, 18, 185, 291, 292}, {9, 18, 126, 186, 187}};
        int[] rounds = {1, 2, 50, 99, 100};
        String poor = "9192939495;";
        String rich = "9998979695;";
        String text = "D332" + (poor + rich).repeat(4) + poor;
        for (int s = 0; s < seeds.length; s++) {
            long seed = seeds[s];
            int[] sums = due[s];
            holds("the seed " + seed + " is taken", () -> {
                for (int i = 0; i < rounds.length; i++) {
                    equal(loaded(text).simulate(seed, rounds[i]), sums[i]);
                }
            });
        }
    }

    private void simulateRefuses() {
        sentence("Throws `IllegalArgumentException` if m is out of range");
        for (int m : new int[] {0, 101, -1, Integer.MIN_VALUE, Integer.MAX_VALUE}) {
            refuses("simulate(1, " + m + ")", ARGUMENT, BoundarySuite::used,
                    x -> x.simulate(1, m));
        }
        refuses("simulate(the smallest long, 0)", ARGUMENT, CaveDraw::new,
                x -> x.simulate(Long.MIN_VALUE, 0));
    }
}
