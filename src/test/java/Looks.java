/**
 * All that the calls of the face can show of an object, as texts that can be compared. Each look
 * but the first uses the object up, so every look is given an object of its own.
 */
final class Looks {
    interface Look {
        String at(CaveDraw x);
    }

    static final Look[] ALL = {Looks::cave, Looks::text, Looks::undone, Looks::slots};

    private Looks() {
    }

    /** The grid and the state. */
    static String cave(CaveDraw x) {
        int points = x.pointCount();
        StringBuilder seen = new StringBuilder();
        seen.append(points).append(" points, bound ").append(x.bound());
        seen.append(", drawn ").append(x.totalBuckets()).append('/').append(x.totalGrade());
        for (int p = 0; p < points; p++) {
            seen.append(x.isHung(p) ? " !" : " ").append(x.drawn(p)).append(':');
            seen.append(x.sliceCount(p)).append('/');
            int left = x.remaining(p);
            for (int i = 0; i < left; i++) {
                seen.append(x.gradeAhead(p, i));
            }
        }
        return seen.toString();
    }

    /** The text: what it lacks, and what it loads as it is or with a last slice and semicolon. */
    static String text(CaveDraw x) {
        String seen = "error " + x.errorPosition();
        if (!done(x::load)) {
            seen += done(() -> TestKit.put(x, "17;")) ? " completed" : " full";
            seen += done(x::load) ? " loaded" : " spoiled";
        }
        return seen + ", " + cave(x) + ", length " + x.clearText();
    }

    /** The remembered states, the last one first. */
    static String undone(CaveDraw x) {
        StringBuilder seen = new StringBuilder();
        while (done(x::undo)) {
            seen.append(cave(x)).append("; ");
        }
        return seen.toString();
    }

    /** What the two save slots hold. */
    static String slots(CaveDraw x) {
        String seen = "";
        for (int slot = 0; slot < 2; slot++) {
            int asked = slot;
            seen += done(() -> x.restore(asked)) ? cave(x) + "; " : "empty; ";
        }
        return seen;
    }

    private static boolean done(TestKit.Body call) {
        try {
            call.run();
            return true;
        } catch (IllegalStateException refused) {
            return false;
        }
    }
}
