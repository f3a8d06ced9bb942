import java.lang.reflect.Constructor;
import java.lang.reflect.Field;
import java.lang.reflect.Method;
import java.lang.reflect.Modifier;
import java.util.Arrays;
import java.util.TreeSet;

/** The face is the document's, and nothing else of the class can be reached from outside. */
public final class FaceTests {
    private static final String[] METHODS = {
        "int append(int)", "int clearText()", "int errorPosition()", "int load()",
        "int pointCount()", "int bound()", "int drawn(int)", "int remaining(int)",
        "int sliceCount(int)", "int gradeAhead(int,int)", "boolean isHung(int)",
        "int totalBuckets()", "int totalGrade()", "int draw(int)", "int drawByOrder(int)",
        "int hang(int)", "int release(int)", "int addSlice(int,int,int)", "int setBound(int)",
        "int undo()", "boolean isReady(int)", "int blockers(int)", "int slack(int)",
        "int nextByOrder()", "int orderAhead(int)", "int bucketsToWaste(int,int)",
        "int bucketsFor(int,int)", "int mostFrom(int)", "int bestSequence(int,int)",
        "int origins(int,int)", "int runScript(int,long)", "int simulate(long,int)",
        "int save(int)", "int restore(int)"
    };

    public static void main(String[] args) {
        TestKit kit = new TestKit();
        kit.test("the constant", () -> TestKit.equal(CaveDraw.NONE, -9));
        kit.test("the class", FaceTests::classIsFinal);
        kit.test("the methods", FaceTests::methodsAreTheDocuments);
        kit.test("fields and constructors", FaceTests::nothingElseIsOpen);
        kit.finish();
    }

    private static void classIsFinal() {
        int modifiers = CaveDraw.class.getModifiers();
        TestKit.equal(Modifier.isPublic(modifiers) && Modifier.isFinal(modifiers), true);
        for (Class<?> inside : CaveDraw.class.getDeclaredClasses()) {
            TestKit.equal(Modifier.isStatic(inside.getModifiers()), true);
            TestKit.equal(Modifier.isPublic(inside.getModifiers()), false);
        }
    }

    private static void methodsAreTheDocuments() {
        TreeSet<String> open = new TreeSet<>();
        TreeSet<String> hidden = new TreeSet<>();
        TreeSet<String> names = new TreeSet<>();
        for (Method m : CaveDraw.class.getDeclaredMethods()) {
            if (Modifier.isPrivate(m.getModifiers())) {
                hidden.add(m.getName());
            } else {
                open.add(signature(m));
                names.add(m.getName());
                TestKit.equal(Modifier.isPublic(m.getModifiers()), true);
                TestKit.equal(Modifier.isStatic(m.getModifiers()), false);
            }
        }
        TestKit.equal(open, new TreeSet<>(Arrays.asList(METHODS)));
        hidden.retainAll(names);
        TestKit.equal(hidden.isEmpty(), true);
    }

    private static String signature(Method m) {
        StringBuilder types = new StringBuilder();
        for (Class<?> type : m.getParameterTypes()) {
            types.append(types.length() == 0 ? "" : ",").append(type.getName());
        }
        return m.getReturnType().getName() + " " + m.getName() + "(" + types + ")";
    }

    private static void nothingElseIsOpen() {
        for (Field f : CaveDraw.class.getDeclaredFields()) {
            boolean isNone = f.getName().equals("NONE");
            TestKit.equal(Modifier.isPrivate(f.getModifiers()), !isNone);
            TestKit.equal(Modifier.isPublic(f.getModifiers()), isNone);
        }
        Constructor<?>[] constructors = CaveDraw.class.getDeclaredConstructors();
        TestKit.equal(constructors.length, 1);
        TestKit.equal(constructors[0].getParameterCount(), 0);
        TestKit.equal(Modifier.isPublic(constructors[0].getModifiers()), true);
    }
}
