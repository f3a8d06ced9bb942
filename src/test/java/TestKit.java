/** Counts the tests of one program and prints those that fail. */
final class TestKit {
    interface Body {
        void run();
    }

    static final Class<? extends Exception> INDEX = IndexOutOfBoundsException.class;
    static final Class<? extends Exception> ARGUMENT = IllegalArgumentException.class;
    static final Class<? extends Exception> STATE = IllegalStateException.class;

    private int passed;
    private int failed;

    void test(String name, Body body) {
        try {
            body.run();
            passed++;
        } catch (Throwable t) {
            failed++;
            System.out.println("FAILED " + name + ": " + t);
            for (StackTraceElement e : t.getStackTrace()) {
                if (e.getFileName() != null && e.getFileName().endsWith("Tests.java")) {
                    System.out.println("    at " + e.getFileName() + ":" + e.getLineNumber());
                }
            }
        }
    }

    void finish() {
        System.out.println(passed + " passed, " + failed + " failed");
        System.exit(failed == 0 ? 0 : 1);
    }

    static void equal(Object got, Object want) {
        if (!want.equals(got)) {
            throw new AssertionError("answered " + got + ", due is " + want);
        }
    }

    static void fails(Class<? extends Exception> wanted, Body body) {
        Class<?> got = null;
        try {
            body.run();
        } catch (Exception e) {
            got = e.getClass();
        }
        if (got != wanted) {
            throw new AssertionError("threw " + got + ", due is " + wanted);
        }
    }

    static void put(CaveDraw cave, String text) {
        for (int i = 0; i < text.length(); i++) {
            cave.append(text.charAt(i));
        }
    }

    static CaveDraw loaded(String text) {
        CaveDraw cave = new CaveDraw();
        put(cave, text);
        cave.load();
        return cave;
    }

    static void drawTimes(CaveDraw cave, int p, int n) {
        for (int i = 0; i < n; i++) {
            cave.draw(p);
        }
    }
}
