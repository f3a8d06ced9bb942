/** The boundaries of a new object and of the text: promises 1 to 5 and the section TEXT. */
public final class TextBoundaryTests extends BoundarySuite {
    /** 4 signs, 50 slices and 16 semicolons: a complete cave text of 120 characters. */
    private static final String LONGEST = "D443" + "192837465564;".repeat(8) + "7382;"
            + ";".repeat(7);

    public static void main(String[] args) {
        new TextBoundaryTests().play();
    }

    @Override
    void run() {
        newObject();
        buffer();
        head();
        columns();
        slices();
        separators();
        leftToRight();
        errorPlace();
        lastSemicolon();
        append();
        appendRefuses();
        clearText();
        errorPosition();
        load();
        loadForgets();
        loadRefuses();
    }

    private void newObject() {
        promise("1 A new object");
        sentence("Creates a cave of 2 by 2 drawpoints with empty columns.");
        holds("4 drawpoints", () -> equal(new CaveDraw().pointCount(), 4));
        holds("two rows and two columns", () -> {
            int[] neighbours = {2 + 4, 1 + 8, 1 + 8, 2 + 4};
            for (int p = 0; p < 4; p++) {
                CaveDraw x = new CaveDraw();
                x.addSlice(p, 2, 1);
                drawTimes(x, p, 2);
                equal(x.blockers(p), neighbours[p]);
            }
        });
        holds("every column is empty", () -> {
            CaveDraw x = new CaveDraw();
            for (int p = 0; p < 4; p++) {
                equal(x.remaining(p), 0);
                equal(x.sliceCount(p), 0);
                equal(x.gradeAhead(p, 0), NONE);
            }
        });
        holds("the bound is 2", () -> equal(new CaveDraw().bound(), 2));
        holds("nothing is drawn and nothing is hung", () -> {
            String due = "4 points, bound 2, drawn 0/0 0:0/ 0:0/ 0:0/ 0:0/";
            equal(Looks.cave(new CaveDraw()), due);
        });
        holds("the text is empty", () -> equal(new CaveDraw().clearText(), 0));
        holds("no state is remembered", () -> fails(STATE, () -> new CaveDraw().undo()));
        holds("both slots are empty", () -> equal(Looks.slots(new CaveDraw()), "empty; empty; "));
        holds("an object shares nothing with another one", () -> {
            CaveDraw x = new CaveDraw();
            String before = Looks.cave(x);
            used();
            great();
            equal(Looks.cave(x), before);
            equal(x.clearText(), 0);
            fails(STATE, x::undo);
            equal(Looks.slots(x), "empty; empty; ");
        });
    }

    // ---- the section TEXT

    private void buffer() {
        promise("TEXT");
        sentence("The object has a text buffer of at most 120 characters.");
        holds("a text of 120 characters is complete", () -> {
            equal(LONGEST.length(), 120);
            equal(with(LONGEST).errorPosition(), NONE);
        });
        holds("the 120th character is read", () -> {
            equal(with(LONGEST.substring(0, 119)).errorPosition(), 119);
            equal(with(LONGEST.substring(0, 119) + "1").errorPosition(), 120);
            equal(with(LONGEST.substring(0, 119) + "x").errorPosition(), 119);
        });
        holds("a text of 120 characters is loaded to its end", () -> {
            CaveDraw x = loaded(LONGEST);
            equal(x.pointCount(), 16);
            equal(x.sliceCount(7), 6);
            equal(x.gradeAhead(7, 0), 9);
            equal(x.remaining(7), 1 + 2 + 3 + 4 + 5 + 6);
            equal(x.remaining(8), 7 + 8);
            equal(x.gradeAhead(8, 14), 2);
            equal(x.remaining(15), 0);
        });
    }

    /** The text with the sign at a place put instead has its error there, or behind it. */
    private static void replaced(String text, int at, char sign, boolean isAllowed) {
        String put = text.substring(0, at) + sign + text.substring(at + 1);
        int error = with(put).errorPosition();
        boolean isAccepted = error == NONE || error > at;
        if (isAllowed ? !isAccepted : error != at) {
            throw new AssertionError("sign " + (int) sign + " at " + at + ": error at " + error);
        }
    }

    /** Of all 256 characters, exactly the allowed ones may stand at the place. */
    private static void allowedAt(String text, int at, String allowed) {
        for (char sign = 0; sign < 256; sign++) {
            replaced(text, at, sign, allowed.indexOf(sign) >= 0);
        }
    }

    private void head() {
        promise("TEXT");
        sentence("A cave text is the letter D, the numbers r and c (one digit each, 1 to 4), the"
                + " bound (one digit, 1 to 9), and then, for each drawpoint in the order of their"
                + " numbers, 0 to 6 slices and a semicolon.");
        holds("no letter but D begins", () -> allowedAt("D111;", 0, "D"));
        holds("r is 1 to 4", () -> allowedAt("D111;", 1, "1234"));
        holds("c is 1 to 4", () -> allowedAt("D111;", 2, "1234"));
        holds("the bound is 1 to 9", () -> allowedAt("D111;", 3, "123456789"));
        holds("r is the rows and c is the columns", () -> {
            CaveDraw x = loaded("D31111;11;11;");
            x.draw(1);
            equal(x.blockers(1), 1 + 4);
            CaveDraw y = loaded("D23111;11;11;11;11;11;");
            y.draw(1);
            equal(y.blockers(1), 1 + 4 + 16);
        });
        holds("every grid and every bound is read", () -> {
            for (int r = 1; r <= 4; r++) {
                for (int c = 1; c <= 4; c++) {
                    for (int b = 1; b <= 9; b++) {
                        CaveDraw x = loaded(alike(r, c, b, ""));
                        equal(x.pointCount(), r * c);
                        equal(x.bound(), b);
                    }
                }
            }
        });
    }

    private void columns() {
        holds("a drawpoint has as many as 6 slices", () -> {
            equal(with("D111101112131415;").errorPosition(), NONE);
            equal(loaded("D111101112131415;").sliceCount(0), 6);
        });
        holds("a drawpoint has 0 slices", () -> {
            equal(with("D111;").errorPosition(), NONE);
            equal(loaded("D111;").sliceCount(0), 0);
        });
        holds("behind 6 slices only a semicolon is allowed", () ->
                allowedAt("D111101112131415;", 16, ";"));
        holds("behind 5 slices a sixth one or a semicolon is allowed", () ->
                allowedAt("D111101112131415;", 14, "123456789;"));
        holds("a seventh slice is an error at its first digit, in every column", () -> {
            equal(with("D11110111213141516;").errorPosition(), 16);
            equal(with("D121;10111213141516;").errorPosition(), 17);
            equal(with("D12110111213141516;;").errorPosition(), 16);
        });
        holds("every grid has a semicolon for each drawpoint", () -> {
            for (int r = 1; r <= 4; r++) {
                for (int c = 1; c <= 4; c++) {
                    String whole = alike(r, c, 1, "");
                    equal(with(whole).errorPosition(), NONE);
                    String less = whole.substring(0, whole.length() - 1);
                    equal(with(less).errorPosition(), less.length());
                    equal(with(whole + ";").errorPosition(), whole.length());
                }
            }
        });
        holds("the first column is that of drawpoint 0, the last that of the last one", () -> {
            CaveDraw x = loaded("D23111;22;33;44;55;66;");
            for (int p = 0; p < 6; p++) {
                equal(x.remaining(p), p + 1);
                equal(x.gradeAhead(p, 0), p + 1);
            }
        });
    }

    private void slices() {
        sentence("A slice is two digits: its buckets (1 to 9) and its grade (0 to 9).");
        holds("the first slice: buckets 1 to 9, or a semicolon", () ->
                allowedAt("D11199;", 4, "123456789;"));
        holds("the first slice: grade 0 to 9", () -> allowedAt("D11199;", 5, "0123456789"));
        holds("the sixth slice: grade 0 to 9", () ->
                allowedAt("D111101112131415;", 15, "0123456789"));
        holds("the last column: buckets and grade", () -> {
            allowedAt("D22111;;;34;", 9, "123456789;");
            allowedAt("D22111;;;34;", 10, "0123456789");
        });
        holds("a slice without a grade is an error at the semicolon", () -> {
            equal(with("D1111;").errorPosition(), 5);
            equal(with("D111123;").errorPosition(), 7);
        });
        holds("the least and the most buckets with the lowest and the highest grade", () -> {
            CaveDraw x = loaded("D22119;90;10;99;");
            equal(x.remaining(0) + " " + x.gradeAhead(0, 0), "1 9");
            equal(x.remaining(1) + " " + x.gradeAhead(1, 8), "9 0");
            equal(x.remaining(2) + " " + x.gradeAhead(2, 0), "1 0");
            equal(x.remaining(3) + " " + x.gradeAhead(3, 8), "9 9");
        });
    }

    private void separators() {
        sentence("There are no separators.");
        holds("a sign between two others is an error there", () -> {
            String text = "D12245;1928;";
            for (char sign : new char[] {' ', ',', '\n', '\t', '-', '.', 0, 255}) {
                for (int at = 0; at <= text.length(); at++) {
                    String put = text.substring(0, at) + sign + text.substring(at);
                    equal(with(put).errorPosition(), at);
                }
            }
        });
        holds("an empty text between two semicolons is a column without slices", () ->
                equal(loaded("D131;;;").pointCount(), 3));
    }

    private void leftToRight() {
        sentence("The text is read from left to right.");
        holds("of several errors the first one counts", () -> {
            equal(with("x00x").errorPosition(), 0);
            equal(with("D00x").errorPosition(), 1);
            equal(with("D10x").errorPosition(), 2);
            equal(with("D110x").errorPosition(), 3);
            equal(with("D1110x").errorPosition(), 4);
            equal(with("D111x;;").errorPosition(), 4);
        });
    }

    private void errorPlace() {
        sentence("The error position is the index of the first character that these rules do not"
                + " allow at its place; if the text ends too soon, it is the length of the text.");
        holds("the empty text ends too soon", () -> equal(new CaveDraw().errorPosition(), 0));
        holds("each beginning of a cave text ends too soon", () -> {
            for (int n = 0; n < LONGEST.length(); n++) {
                equal(with(LONGEST.substring(0, n)).errorPosition(), n);
            }
        });
        holds("a text of the greatest length can end too soon", () -> {
            String text = alike(4, 4, 1, "10111213").substring(0, 120);
            equal(with(text).errorPosition(), 120);
        });
        holds("the last character can be the error", () -> equal(with("D11x").errorPosition(), 3));
        holds("the first character can be the error", () ->
                equal(with("xD111;").errorPosition(), 0));
        holds("what does not end too soon has its error before its length", () -> {
            equal(with("D1110").errorPosition(), 4);
            equal(with("D11110").errorPosition(), 6);
        });
    }

    private void lastSemicolon() {
        sentence("After the last semicolon no character is allowed.");
        holds("none of the 256 characters", () -> {
            allowedAt("D111;x", 5, "");
            allowedAt("D21199;10;x", 10, "");
        });
        holds("behind the greatest grid", () -> allowedAt(alike(4, 4, 9, "") + "x", 20, ""));
        holds("nor more than one", () -> equal(with("D111;D111;").errorPosition(), 5));
    }

    // ---- the methods

    private void append() {
        promise("2 append");
        sentence("Returns the new length of the text.");
        holds("1 at first, 120 at the end", () -> {
            CaveDraw x = new CaveDraw();
            for (int n = 1; n <= 120; n++) {
                equal(x.append(';'), n);
            }
        });
        holds("1 again behind clearText", () -> {
            CaveDraw x = with("D11");
            x.clearText();
            equal(x.append('D'), 1);
        });
        holds("it goes on behind load", () -> equal(loaded("D111;").append('D'), 6));
        sentence("`c`: character code, 0 to 255");
        holds("0 is taken", () -> equal(new CaveDraw().append(0), 1));
        holds("255 is taken", () -> equal(new CaveDraw().append(255), 1));
        holds("every code is taken as it is", () -> {
            for (int c = 0; c <= 255; c++) {
                CaveDraw x = new CaveDraw();
                equal(x.append(c), 1);
                equal(x.errorPosition(), c == 'D' ? 1 : 0);
            }
        });
    }

    private void appendRefuses() {
        sentence("Throws `IllegalArgumentException` if c is out of range");
        refuses("append(-1)", ARGUMENT, () -> with("D1112"), x -> x.append(-1));
        refuses("append(256)", ARGUMENT, () -> with("D1112"), x -> x.append(256));
        refuses("append('5' + 256)", ARGUMENT, () -> with("D1112"), x -> x.append('5' + 256));
        refuses("append('5' - 256)", ARGUMENT, () -> with("D1112"), x -> x.append('5' - 256));
        refuses("append('5' + 65536)", ARGUMENT, () -> with("D1112"), x -> x.append('5' + 65536));
        refuses("append of the smallest int", ARGUMENT, () -> with("D1112"),
                x -> x.append(Integer.MIN_VALUE));
        refuses("append of the greatest int", ARGUMENT, () -> with("D1112"),
                x -> x.append(Integer.MAX_VALUE));
        sentence("Throws `IllegalStateException` if the text already has 120 characters");
        refuses("append as the 121st", STATE, () -> with(LONGEST), x -> x.append(';'));
        refuses("append(0) as the 121st", STATE, () -> with(LONGEST), x -> x.append(0));
        refuses("append behind a full text that was loaded", STATE, () -> loaded(LONGEST),
                x -> x.append(255));
        holds("append as the 120th throws nothing", () ->
                equal(with(LONGEST.substring(0, 119)).append(';'), 120));
        holds("a full text that was cleared has room for 120 again", () -> {
            CaveDraw x = with(LONGEST);
            x.clearText();
            TestKit.put(x, LONGEST);
            equal(x.errorPosition(), NONE);
            fails(STATE, () -> x.append(';'));
        });
    }

    private void clearText() {
        promise("3 clearText");
        sentence("Empties the text buffer.");
        holds("the error position is 0 then", () -> {
            CaveDraw x = with("D111;");
            x.clearText();
            equal(x.errorPosition(), 0);
        });
        holds("nothing of the old text comes back", () -> {
            CaveDraw x = with("D111;");
            x.clearText();
            TestKit.put(x, "D1");
            equal(x.errorPosition(), 2);
        });
        holds("the state, the remembered states and the slots stay", () -> {
            CaveDraw x = used();
            x.clearText();
            equal(Looks.cave(x), Looks.cave(used()));
            equal(Looks.undone(x), Looks.undone(used()));
            CaveDraw y = used();
            y.clearText();
            equal(Looks.slots(y), Looks.slots(used()));
        });
        sentence("Returns the previous length of the text.");
        holds("0 of an empty text", () -> equal(new CaveDraw().clearText(), 0));
        holds("1 of one character", () -> equal(with("x").clearText(), 1));
        holds("120 of a full text", () -> equal(with(LONGEST).clearText(), 120));
        holds("0 behind another clearText", () -> {
            CaveDraw x = with(LONGEST);
            x.clearText();
            equal(x.clearText(), 0);
        });
        holds("a refused character does not count", () -> {
            CaveDraw x = with("D");
            fails(ARGUMENT, () -> x.append(256));
            equal(x.clearText(), 1);
        });
    }

    private void errorPosition() {
        promise("4 errorPosition");
        sentence("Returns the error position of the text; NONE if it is a complete cave text.");
        holds("NONE of the shortest cave text", () -> equal(with("D111;").errorPosition(), NONE));
        holds("NONE of the longest cave text", () -> equal(with(LONGEST).errorPosition(), NONE));
        holds("0 of the empty text", () -> equal(new CaveDraw().errorPosition(), 0));
        holds("it changes sign by sign", () -> {
            CaveDraw x = new CaveDraw();
            for (int n = 1; n < LONGEST.length(); n++) {
                x.append(LONGEST.charAt(n - 1));
                equal(x.errorPosition(), n);
            }
            x.append(';');
            equal(x.errorPosition(), NONE);
        });
        holds("an error stays whatever follows", () -> {
            CaveDraw x = with("D5");
            for (int n = 0; n < 118; n++) {
                x.append(';');
                equal(x.errorPosition(), 1);
            }
        });
        sentence("Checks the text.");
        changesNothing("errorPosition()", BoundarySuite::used, x -> x.errorPosition());
        changesNothing("errorPosition() of a bad text", () -> with("D1x"), x -> x.errorPosition());
    }

    private void load() {
        promise("5 load");
        sentence("Replaces the grid, the columns and the bound by those of the text; nothing is"
                + " drawn and nothing is hung, and the sums are 0.");
        holds("a greater grid becomes the smallest one", () -> {
            CaveDraw x = great();
            x.clearText();
            TestKit.put(x, "D11145;");
            x.load();
            equal(Looks.cave(x), "1 points, bound 1, drawn 0/0 0:1/5555");
            equal(x.slack(0), 4);
        });
        holds("the smallest grid becomes the greatest one", () -> {
            CaveDraw x = single();
            x.clearText();
            TestKit.put(x, alike(4, 4, 9, ""));
            x.load();
            equal(Looks.cave(x), "16 points, bound 9, drawn 0/0" + " 0:0/".repeat(16));
        });
        holds("full columns become empty ones", () -> {
            CaveDraw x = loaded(LONGEST);
            x.clearText();
            TestKit.put(x, alike(4, 4, 9, ""));
            x.load();
            equal(Looks.cave(x), "16 points, bound 9, drawn 0/0" + " 0:0/".repeat(16));
        });
        holds("what was drawn and hung everywhere is neither then", () -> {
            CaveDraw x = loaded(alike(4, 4, 9, "15"));
            x.drawByOrder(16);
            for (int p = 0; p < 16; p++) {
                x.hang(p);
            }
            x.load();
            equal(Looks.cave(x), "16 points, bound 9, drawn 0/0" + " 0:1/5".repeat(16));
        });
        holds("a bound that was changed is that of the text again", () -> {
            CaveDraw x = loaded("D119;");
            x.setBound(1);
            x.load();
            equal(x.bound(), 9);
        });
        sentence("Returns the number of drawpoints.");
        holds("1 of the smallest grid", () -> equal(with("D111;").load(), 1));
        holds("16 of the greatest grid", () -> equal(with(alike(4, 4, 1, "")).load(), 16));
    }

    private void loadForgets() {
        sentence("Forgets all remembered states and empties both save slots.");
        holds("14 remembered states are forgotten", () -> {
            CaveDraw x = loaded("D111;");
            for (int i = 0; i < 14; i++) {
                x.setBound(2);
            }
            x.load();
            fails(STATE, x::undo);
        });
        holds("states are remembered anew behind it", () -> {
            CaveDraw x = loaded("D11155;");
            drawTimes(x, 0, 2);
            x.load();
            x.draw(0);
            equal(x.undo(), 0);
            equal(x.remaining(0), 5);
        });
        holds("slot 0 and slot 1 are empty", () -> {
            CaveDraw x = loaded("D111;");
            x.save(0);
            x.save(1);
            x.load();
            equal(Looks.slots(x), "empty; empty; ");
        });
        holds("a slot that is filled behind it is filled alone", () -> {
            CaveDraw x = loaded("D111;");
            x.save(0);
            x.save(1);
            x.load();
            x.save(1);
            fails(STATE, () -> x.restore(0));
            equal(x.restore(1), 0);
        });
        sentence("Keeps the text.");
        holds("the same text is loaded again", () -> {
            CaveDraw x = loaded("D11155;");
            x.draw(0);
            equal(x.load(), 1);
            equal(x.remaining(0), 5);
        });
        holds("its length stays", () -> equal(loaded(LONGEST).clearText(), 120));
        holds("it goes on behind its last character", () -> {
            CaveDraw x = loaded("D111;");
            x.append(';');
            equal(x.errorPosition(), 5);
        });
    }

    private void loadRefuses() {
        sentence("Throws `IllegalStateException` if the text is not a complete cave text");
        refuses("load of an empty text", STATE, CaveDraw::new, x -> x.load());
        refuses("load of a text that is cleared", STATE, () -> textInstead(""), x -> x.load());
        refuses("load of a D alone", STATE, () -> textInstead("D"), x -> x.load());
        refuses("load without the last semicolon", STATE, () -> textInstead("D12145;31"),
                x -> x.load());
        refuses("load within a slice", STATE, () -> textInstead("D1114"), x -> x.load());
        refuses("load of one character too many", STATE, () -> textInstead("D111;;"),
                x -> x.load());
        refuses("load of a grid of 5 rows", STATE, () -> textInstead("D511;;;;;"), x -> x.load());
        refuses("load of a grid without columns", STATE, () -> textInstead("D101"), x -> x.load());
        refuses("load of the bound 0", STATE, () -> textInstead("D110;"), x -> x.load());
        refuses("load of a seventh slice", STATE, () -> textInstead("D11111111111111111;"),
                x -> x.load());
        refuses("load of a slice of 0 buckets", STATE, () -> textInstead("D11105;"),
                x -> x.load());
        refuses("load of a full text with an error at its end", STATE,
                () -> textInstead(LONGEST.substring(0, 119) + "x"), x -> x.load());
        holds("no beginning of a cave text is loaded", () -> {
            String text = "D22145;31;2819;37;";
            CaveDraw x = new CaveDraw();
            for (int n = 0; n < text.length(); n++) {
                fails(STATE, x::load);
                x.append(text.charAt(n));
            }
            equal(x.load(), 4);
        });
    }

    /** The object with everything in it, and another text. */
    private static CaveDraw textInstead(String text) {
        CaveDraw x = used();
        x.clearText();
        TestKit.put(x, text);
        return x;
    }
}
