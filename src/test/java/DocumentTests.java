import java.io.IOException;
import java.lang.reflect.InvocationTargetException;
import java.lang.reflect.Method;
import java.nio.file.Files;
import java.nio.file.Path;
import java.util.ArrayList;
import java.util.Comparator;
import java.util.LinkedHashMap;
import java.util.List;
import java.util.Map;
import java.util.Set;
import java.util.TreeSet;
import java.util.regex.Matcher;
import java.util.regex.Pattern;

/**
 * Reads ../shared/DOC.md itself: its face and its examples hold, and each of its sentences stands
 * over a test in a suite. The example of README.md is read and played too.
 */
public final class DocumentTests {
    private static final BoundarySuite[] SUITES = {
        new TextBoundaryTests(), new CaveBoundaryTests(), new ActionBoundaryTests(),
        new QuestionBoundaryTests(), new ScriptBoundaryTests(), new SlotBoundaryTests(),
        new ExceptionBoundaryTests(), new SentenceTests()
    };

    /** What asks nothing of an answer; the last of them is held by the test of the signatures. */
    private static final String[] FREE = {
        "How the state is held inside the object is free, as are the speed of each call, the text"
            + " of toString and the behaviour of equals and hashCode.",
        "Use of one object from several threads at once is not promised to be safe.",
        "The constructor and the methods follow, a promise each: the signature, then what it does."
    };

    private static final int PROMISES = 35;
    private static final String FACE = "The public face";
    private static final String EXAMPLES = "Examples";
    private static final Pattern PROMISE = Pattern.compile("## Promise (\\d+): .*");
    private static final Pattern CAPITALS = Pattern.compile("[A-Z]+( [A-Z]+)*");
    private static final Pattern SIGNATURE = Pattern.compile("(?m)^`(.*\\).*)`$");
    private static final Pattern CALL =
            Pattern.compile("(\\w+)\\(([0-9, ]*)\\) = (?:throws )?(-?\\w+)");
    private static final Pattern README_CALL =
            Pattern.compile("cave\\.(\\w+)\\(([0-9, ]*)\\); +// (-?\\w+).*");

    /** The text of each section; a promise has its number as its name. */
    private final Map<String, String> sections = new LinkedHashMap<>();

    public static void main(String[] args) throws IOException {
        DocumentTests document = new DocumentTests();
        document.read(Path.of("../shared/DOC.md"));
        TestKit kit = new TestKit();
        kit.test("the promises are 1 to 35", document::promisesAreThere);
        kit.test("the face", document::faceIsTheClass);
        kit.test("the signatures of the promises", document::signaturesAreTheFace);
        kit.test("the examples", document::examplesHold);
        kit.test("the quoted sentences", document::quotesStandThere);
        for (String section : document.sections.keySet()) {
            kit.test("the sentences of " + section, () -> document.allIsQuoted(section));
        }
        kit.test("the example of README.md", DocumentTests::readmeHolds);
        kit.finish();
    }

    private void read(Path file) throws IOException {
        String name = "";
        for (String line : Files.readAllLines(file)) {
            String begun = nameOf(line);
            name = begun == null ? name : begun;
            boolean isHeading = begun != null && !begun.equals(EXAMPLES);
            sections.merge(name, isHeading ? "" : line + "\n", String::concat);
        }
        sections.remove("");
    }

    /** The name of the section that begins with the line, or null. */
    private static String nameOf(String line) {
        Matcher promise = PROMISE.matcher(line);
        if (promise.matches()) {
            return promise.group(1);
        }
        if (line.startsWith("## ")) {
            return line.substring(3);
        }
        if (line.startsWith("Examples: ")) {
            return EXAMPLES;
        }
        if (line.equals("The constants:")) {
            return "The constants";
        }
        return CAPITALS.matcher(line).matches() ? line : null;
    }

    private static String inOneLine(String text) {
        return text.replaceAll("\\s+", " ").trim();
    }

    // ---- the face

    private void promisesAreThere() {
        for (int n = 1; n <= PROMISES; n++) {
            TestKit.equal(sections.containsKey(String.valueOf(n)), true);
        }
        TestKit.equal(sections.containsKey(String.valueOf(PROMISES + 1)), false);
    }

    /** The constructor and the methods of the face, as their lines stand there. */
    private List<String> faceLines() {
        List<String> lines = new ArrayList<>();
        for (String line : sections.get(FACE).split("\n")) {
            if (line.startsWith("    public ") && line.contains("(")) {
                lines.add(line.trim().replace("public ", "").replace(";", ""));
            }
        }
        return lines;
    }

    private void faceIsTheClass() {
        TestKit.equal(sections.get(FACE).contains("public final class CaveDraw {"), true);
        TestKit.equal(sections.get(FACE).contains("public static final int NONE = -9;"), true);
        Set<String> due = new TreeSet<>();
        for (String line : faceLines()) {
            due.add(line.replaceAll("(int|long) \\w+(?=[,)])", "$1"));
        }
        TestKit.equal(due.remove("CaveDraw()"), true);
        Set<String> got = new TreeSet<>();
        for (Method method : CaveDraw.class.getMethods()) {
            if (method.getDeclaringClass() == CaveDraw.class) {
                got.add(signature(method));
            }
        }
        TestKit.equal(got, due);
    }

    private static String signature(Method method) {
        String face = method.getReturnType() + " " + method.getName()
                + "(" + names(method.getParameterTypes()) + ")";
        String thrown = names(method.getExceptionTypes());
        return thrown.isEmpty() ? face : face + " throws " + thrown;
    }

    private static String names(Class<?>[] types) {
        List<String> names = new ArrayList<>();
        for (Class<?> type : types) {
            names.add(type.getSimpleName());
        }
        return String.join(", ", names);
    }

    private void signaturesAreTheFace() {
        List<String> signatures = new ArrayList<>();
        for (int n = 1; n <= PROMISES; n++) {
            Matcher signature = SIGNATURE.matcher(sections.get(String.valueOf(n)));
            TestKit.equal(signature.find(), true);
            signatures.add(signature.group(1));
        }
        TestKit.equal(signatures, faceLines());
    }

    // ---- the examples

    private void examplesHold() {
        String[] examples = inOneLine(sections.get(EXAMPLES)).split(" (?=\\d\\. [A-Z])");
        // Before the first of the five stands what the examples are.
        TestKit.equal(examples.length, 1 + 5);
        for (int i = 1; i < examples.length; i++) {
            CaveDraw x = new CaveDraw();
            Matcher call = CALL.matcher(examples[i]);
            int calls = 0;
            while (call.find()) {
                calls++;
                answers(x, call.group(1), call.group(2), call.group(3));
            }
            TestKit.equal(calls, examples[i].split(" = ").length - 1);
        }
    }

    private static void answers(CaveDraw x, String name, String arguments, String due) {
        String got = answer(x, name, arguments.isEmpty() ? new String[0] : arguments.split(", "));
        if (!got.equals(due)) {
            throw new AssertionError(name + "(" + arguments + ") = " + got + ", due is " + due);
        }
    }

    private static String answer(CaveDraw x, String name, String[] arguments) {
        for (Method method : CaveDraw.class.getMethods()) {
            if (method.getName().equals(name)) {
                return invoke(x, method, arguments);
            }
        }
        throw new AssertionError("there is no method " + name);
    }

    private static String invoke(CaveDraw x, Method method, String[] arguments) {
        Object[] values = new Object[arguments.length];
        for (int i = 0; i < values.length; i++) {
            values[i] = Integer.valueOf(arguments[i]);
        }
        try {
            return String.valueOf(method.invoke(x, values));
        } catch (InvocationTargetException e) {
            return e.getCause().getClass().getSimpleName();
        } catch (IllegalAccessException e) {
            throw new AssertionError(e);
        }
    }

    private static void readmeHolds() {
        CaveDraw x = TestKit.loaded("D12159;39;");
        int calls = 0;
        for (String line : lines(Path.of("README.md"))) {
            Matcher call = README_CALL.matcher(line);
            if (call.matches()) {
                calls++;
                answers(x, call.group(1), call.group(2), call.group(3));
            }
        }
        TestKit.equal(calls > 0, true);
    }

    private static List<String> lines(Path file) {
        try {
            return Files.readAllLines(file);
        } catch (IOException e) {
            throw new AssertionError(e);
        }
    }

    // ---- the sentences

    /** The sentences that have a test, by their section. */
    private Map<String, Set<String>> quotes() {
        Map<String, Set<String>> quotes = new LinkedHashMap<>();
        for (BoundarySuite suite : SUITES) {
            for (Map.Entry<String, Set<String>> entry : suite.quotes().entrySet()) {
                String label = entry.getKey();
                boolean isPromise = Character.isDigit(label.charAt(0));
                String section = isPromise ? label.split(" ")[0] : label;
                quotes.computeIfAbsent(section, s -> new TreeSet<>()).addAll(entry.getValue());
            }
        }
        return quotes;
    }

    private void quotesStandThere() {
        for (Map.Entry<String, Set<String>> entry : quotes().entrySet()) {
            String text = inOneLine(sections.getOrDefault(entry.getKey(), ""));
            for (String quote : entry.getValue()) {
                if (!text.contains(quote)) {
                    throw new AssertionError(entry.getKey() + " does not say: " + quote);
                }
            }
        }
    }

    private void allIsQuoted(String section) {
        if (section.equals(FACE) || section.equals(EXAMPLES)) {
            return;
        }
        List<String> quotes = new ArrayList<>(quotes().getOrDefault(section, Set.of()));
        // A sentence can stand within a longer one.
        quotes.sort(Comparator.comparing(String::length).reversed());
        quotes.addAll(List.of(FREE));
        String rest = inOneLine(SIGNATURE.matcher(sections.get(section)).replaceAll(""));
        for (String quote : quotes) {
            rest = rest.replace(quote, "|");
        }
        // Headings within the promises, and the dashes of lists.
        rest = rest.replaceAll("---- (text|the cave|actions|scripts, random hang-ups|save slots)", "");
        rest = rest.replaceAll("[-| ]+", " ").trim();
        TestKit.equal(rest, "");
    }
}
