import java.lang.reflect.Constructor;
import java.lang.reflect.Field;
import java.lang.reflect.Method;
import java.lang.reflect.Modifier;
import java.util.Arrays;
import java.util.TreeSet;

/** The face is the document's, and nothing else of the class can be reached from outside. */
public final class FaceTests {
    /** X, A and S are IndexOutOfBounds-, IllegalArgument- and IllegalStateException. */
    private static final String[] METHODS = {
        "int append(int) throws AS", "int clearText()", "int errorPosition()",
        "int load() throws S", "int pointCount()", "int bound()", "int drawn(int) throws X",
        "int remaining(int) throws X", "int sliceCount(int) throws X",
        "int gradeAhead(int,int) throws XA", "boolean isHung(int) throws X",
        "int totalBuckets()", "int totalGrade()", "int draw(int) throws XS",
        "int drawByOrder(int) throws A", "int hang(int) throws XS",
        "int release(int) throws XS", "int addSlice(int,int,int) throws XAS",
        "int setBound(int) throws AS", "int undo() throws S", "boolean isReady(int) throws X",
        "int blockers(int) throws X", "int slack(int) throws X", "int nextByOrder()",
        "int orderAhead(int) throws A", "int bucketsToWaste(int,int) throws XA",
        "int bucketsFor(int,int) throws XA", "int mostFrom(int) throws X",
        "int bestSequence(int,int) throws A", "int origins(int,int) throws A",
        "int runScript(int,long) throws A", "int simulate(long,int) throws A",
        "int save(int) throws X", "int restore(int) throws XS"
    };

    public static void main(String[] args) {
        TestKit kit = new TestKit();
        kit.test("the constant", () -> TestKit.equal(CaveDraw.NONE, -9));
        kit.test("the class", FaceTests::classIsFinal);
        kit.test("the methods", FaceTests::methodsAreTheDocuments);
        kit.test("fields and constructors", FaceTests::nothingElseIsOpen);
        kit.finish();
    }

    private static void classIsFinal() {
        int modifiers = CaveDraw.class.getModifiers();
        TestKit.equal(Modifier.isPublic(modifiers) && Modifier.isFinal(modifiers), true);
        for (Class<?> inside : CaveDraw.class.getDeclaredClasses()) {
            TestKit.equal(Modifier.isStatic(inside.getModifiers()), true);
            TestKit.equal(Modifier.isPublic(inside.getModifiers()), false);
        }
    }

    private static void methodsAreTheDocuments() {
        TreeSet<String> open = new TreeSet<>();
        TreeSet<String> hidden = new TreeSet<>();
        TreeSet<String> names = new TreeSet<>();
        for (Method m : CaveDraw.class.getDeclaredMethods()) {
            if (Modifier.isPrivate(m.getModifiers())) {
                hidden.add(m.getName());
            } else {
                open.add(signature(m));
                names.add(m.getName());
                TestKit.equal(Modifier.isPublic(m.getModifiers()), true);
                TestKit.equal(Modifier.isStatic(m.getModifiers()), false);
            }
        }
        TestKit.equal(open, new TreeSet<>(Arrays.asList(METHODS)));
        hidden.retainAll(names);
        TestKit.equal(hidden.isEmpty(), true);
    }

    private static String signature(Method m) {
        StringBuilder types = new StringBuilder();
        for (Class<?> type : m.getParameterTypes()) {
            types.append(types.length() == 0 ? "" : ",").append(type.getName());
        }
        String thrown = "";
        for (Class<?> type : m.getExceptionTypes()) {
            thrown += letter(type);
        }
        String face = m.getReturnType().getName() + " " + m.getName() + "(" + types + ")";
        return thrown.isEmpty() ? face : face + " throws " + thrown;
    }

    private static String letter(Class<?> type) {
        if (type == TestKit.INDEX) {
            return "X";
        }
        if (type == TestKit.ARGUMENT) {
            return "A";
        }
        return type == TestKit.STATE ? "S" : "?";
    }

    private static void nothingElseIsOpen() {
        for (Field f : CaveDraw.class.getDeclaredFields()) {
            boolean isNone = f.getName().equals("NONE");
            TestKit.equal(Modifier.isPrivate(f.getModifiers()), !isNone);
            TestKit.equal(Modifier.isPublic(f.getModifiers()), isNone);
        }
        Constructor<?>[] constructors = CaveDraw.class.getDeclaredConstructors();
        TestKit.equal(constructors.length, 1);
        TestKit.equal(constructors[0].getParameterCount(), 0);
        TestKit.equal(Modifier.isPublic(constructors[0].getModifiers()), true);
    }
}
