/** The boundaries of the save slots, promises 34 and 35, and of the section EXCEPTIONS. */
public final class SlotBoundaryTests extends BoundarySuite {
    private static final int[] NO_SLOTS = {-1, 2, NONE, Integer.MIN_VALUE, Integer.MAX_VALUE};

    public static void main(String[] args) {
        new SlotBoundaryTests().play();
    }

    @Override
    void run() {
        save();
        saveRefuses();
        restore();
        restoreForgets();
        restoreRefuses();
    }

    private void save() {
        promise("34 save");
        sentence("Stores the present state in a slot.");
        holds("all parts of the state", () -> {
            CaveDraw x = used();
            String before = Looks.cave(x);
            x.save(0);
            x.draw(0);
            x.release(3);
            x.setBound(9);
            x.addSlice(1, 9, 9);
            x.restore(0);
            equal(Looks.cave(x), before);
        });
        holds("all of the greatest grid", () -> {
            CaveDraw x = great();
            String before = Looks.cave(x);
            x.save(1);
            x.release(15);
            x.drawByOrder(99);
            x.restore(1);
            equal(Looks.cave(x), before);
        });
        holds("a slot that is filled holds the later state", () -> {
            CaveDraw x = loaded("D11155;");
            x.save(0);
            x.draw(0);
            x.save(0);
            equal(x.restore(0), 1);
        });
        holds("each slot holds its own state", () -> {
            CaveDraw x = loaded("D11155;");
            x.save(1);
            x.draw(0);
            x.save(0);
            equal(x.restore(1), 0);
            equal(x.restore(0), 1);
        });
        holds("the other slot stays empty", () -> {
            CaveDraw x = new CaveDraw();
            x.save(0);
            fails(STATE, () -> x.restore(1));
            CaveDraw y = new CaveDraw();
            y.save(1);
            fails(STATE, () -> y.restore(0));
        });
        holds("the state, the text and the remembered states stay", () -> {
            for (int slot = 0; slot < 2; slot++) {
                CaveDraw x = used();
                x.save(slot);
                equal(Looks.cave(x), Looks.cave(used()));
                equal(Looks.undone(x), Looks.undone(used()));
                CaveDraw y = used();
                y.save(slot);
                equal(Looks.text(y), Looks.text(used()));
            }
        });
        sentence("Returns the number of all buckets that were drawn.");
        holds("0 of a new object", () -> equal(new CaveDraw().save(0), 0));
        holds("all of all drawpoints", () -> {
            CaveDraw x = loaded(alike(4, 4, 9, "3131"));
            x.drawByOrder(96);
            equal(x.save(1), 96);
        });
        sentence("`slot`: 0 or 1");
        holds("0 is taken", () -> equal(new CaveDraw().save(0), 0));
        holds("1 is taken", () -> equal(new CaveDraw().save(1), 0));
    }

    private void saveRefuses() {
        sentence("Throws `IndexOutOfBoundsException` if there is no such slot");
        for (int slot : NO_SLOTS) {
            refuses("save(" + slot + ")", INDEX, BoundarySuite::used, x -> x.save(slot));
        }
        refuses("save(2) while both slots are empty", INDEX, CaveDraw::new, x -> x.save(2));
    }

    private void restore() {
        promise("35 restore");
        sentence("Replaces the state by the one in a slot, and forgets all remembered states. The"
                + " slot keeps its state.");
        holds("a state that was saved before anything was drawn", () -> {
            CaveDraw x = loaded("D11155;");
            x.save(0);
            x.drawByOrder(5);
            x.hang(0);
            x.restore(0);
            equal(Looks.cave(x), "1 points, bound 1, drawn 0/0 0:1/55555");
        });
        holds("a later state can be restored behind an earlier one", () -> {
            CaveDraw x = loaded("D11155;");
            x.save(0);
            x.drawByOrder(5);
            x.save(1);
            x.restore(0);
            x.restore(1);
            equal(Looks.cave(x), "1 points, bound 1, drawn 5/25 5:0/");
        });
        holds("the slot keeps its state while the state goes on", () -> {
            CaveDraw x = loaded("D11155;");
            x.draw(0);
            x.save(0);
            for (int i = 0; i < 3; i++) {
                equal(x.restore(0), 1);
                equal(x.drawn(0), 1);
                drawTimes(x, 0, 3);
                x.addSlice(0, 1, 1);
                x.hang(0);
            }
        });
        holds("the other slot stays", () -> {
            CaveDraw x = used();
            x.restore(0);
            equal(Looks.slots(x), Looks.slots(used()));
        });
        holds("the text stays", () -> {
            CaveDraw x = with("D12");
            x.save(0);
            x.append('3');
            x.restore(0);
            equal(x.errorPosition(), 4);
            equal(x.clearText(), 4);
        });
        holds("what was just saved changes nothing but the remembered states", () -> {
            CaveDraw x = used();
            x.save(0);
            x.restore(0);
            equal(Looks.cave(x), Looks.cave(used()));
        });
    }

    private void restoreForgets() {
        holds("one remembered state and 14 of them are forgotten", () -> {
            for (int actions : new int[] {1, 14, 20}) {
                CaveDraw x = greatestColumn();
                x.save(0);
                drawTimes(x, 0, actions);
                x.restore(0);
                fails(STATE, x::undo);
            }
        });
        holds("what is remembered behind it is undone up to it", () -> {
            CaveDraw x = loaded("D11155;");
            x.draw(0);
            x.save(1);
            x.draw(0);
            x.restore(1);
            x.draw(0);
            equal(x.undo(), 0);
            equal(x.drawn(0), 1);
            fails(STATE, x::undo);
        });
        sentence("Returns the number of all buckets that were drawn.");
        holds("0 of the first state, and all of a later one", () -> {
            CaveDraw x = loaded(alike(4, 4, 9, "3131"));
            x.save(0);
            x.drawByOrder(96);
            x.save(1);
            equal(x.restore(0), 0);
            equal(x.restore(1), 96);
        });
    }

    private void restoreRefuses() {
        sentence("Throws `IndexOutOfBoundsException` if there is no such slot");
        for (int slot : NO_SLOTS) {
            refuses("restore(" + slot + ")", INDEX, BoundarySuite::used, x -> x.restore(slot));
        }
        refuses("restore(2) while both slots are empty", INDEX, CaveDraw::new, x -> x.restore(2));
        sentence("Throws `IllegalStateException` if the slot is empty");
        refuses("restore(0) of a new object", STATE, CaveDraw::new, x -> x.restore(0));
        refuses("restore(1) of a new object", STATE, CaveDraw::new, x -> x.restore(1));
        refuses("restore(0) where the slot 1 is filled", STATE, BoundarySuite::single,
                x -> x.restore(0));
        refuses("restore(1) where the slot 0 is filled", STATE, BoundarySuite::great,
                x -> x.restore(1));
        refuses("restore(0) behind load", STATE, SlotBoundaryTests::usedAndLoaded,
                x -> x.restore(0));
        refuses("restore(1) behind load", STATE, SlotBoundaryTests::usedAndLoaded,
                x -> x.restore(1));
        holds("a load that is refused empties no slot", () -> {
            CaveDraw x = used();
            x.clearText();
            fails(STATE, x::load);
            equal(Looks.slots(x), Looks.slots(used()));
        });
    }

    private static CaveDraw usedAndLoaded() {
        CaveDraw x = used();
        x.load();
        x.hang(2);
        x.draw(0);
        return x;
    }
}
