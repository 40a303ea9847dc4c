import java.io.IOException;
import java.lang.reflect.InvocationTargetException;
import java.lang.reflect.Method;
import java.nio.file.Files;
import java.nio.file.Path;
import java.util.ArrayList;
import java.util.Arrays;
import java.util.Comparator;
import java.util.List;
import java.util.regex.Matcher;
import java.util.regex.Pattern;

/**
 * Runs every test of a sentence of the document, and looks whether each sentence has one: each
 * sentence of each promise one for that promise, each one of the terms one for any promise.
 */
final class EdgeTests {
    private static final List<Class<?>> CLASSES = List.of(
            RoadEdges.class, UndoEdges.class, TextEdges.class, KindEdges.class, LimitEdges.class, DriveEdges.class,
            SpeedEdges.class, BetterEdges.class, SeenEdges.class, ThereIsEdges.class);
    private static final int PROMISES = 35;
    /** A full stop, but not one of the two between a least and a most. */
    private static final Pattern SENTENCE_END = Pattern.compile("(?<![. ])\\.(?=\\s|$)");
    /** The calls' order, told by the page for its readers alone. */
    private static final String OF_NO_CALL = "Ahead of the calls";

    private EdgeTests() {
    }

    static void run(Path document) {
        List<Method> tests = tests();
        for (Method test : tests) {
            runOne(test);
        }
        if (!Files.exists(document)) {
            System.out.println("the document is not at " + document + ": its sentences are not looked for");
            return;
        }
        try {
            eachSentenceHasATest(Files.readString(document), tests);
        } catch (IOException e) {
            Check.that("the document can be read: " + e, false);
        }
    }

    private static List<Method> tests() {
        List<Method> tests = new ArrayList<>();
        for (Class<?> c : CLASSES) {
            for (Method m : c.getDeclaredMethods()) {
                if (m.isAnnotationPresent(Edge.class)) {
                    tests.add(m);
                } else {
                    Check.that(m.getName() + " is told to be a test", !m.getName().matches("p\\d\\d_.*"));
                }
            }
        }
        tests.sort(Comparator.comparing(Method::getName));
        return tests;
    }

    private static void runOne(Method test) {
        Edge edge = test.getAnnotation(Edge.class);
        Edges.begin(test.getName() + " " + Arrays.toString(edge.says()));
        int before = Check.made();
        try {
            test.setAccessible(true);
            test.invoke(null);
        } catch (InvocationTargetException | IllegalAccessException e) {
            Check.that(test.getName() + ": " + e.getCause(), false);
        }
        Check.that(test.getName() + " looks at something", Check.made() > before);
        Check.that(test.getName() + " is named after its promise",
                test.getName().startsWith(String.format("p%02d_", edge.promise())));
    }

    private static void eachSentenceHasATest(String page, List<Method> tests) {
        String document = plain(page);
        for (Method test : tests) {
            for (String words : test.getAnnotation(Edge.class).says()) {
                Check.that("the document says «" + words + "» (" + test.getName() + ")", document.contains(plain(words)));
            }
        }
        for (int promise = 1; promise <= PROMISES; promise++) {
            for (String sentence : sentences(promiseText(page, promise))) {
                Check.that("promise " + promise + " has a test of «" + sentence + "»",
                        isTold(sentence, promise, tests));
            }
        }
        for (String sentence : sentences(between(page, "## Terms", "## Promise 1:"))) {
            boolean free = sentence.startsWith(OF_NO_CALL);
            Check.that("the terms have a test of «" + sentence + "»", free || isTold(sentence, 0, tests));
        }
    }

    /** By a test for a promise, or for any where the promise is 0. */
    private static boolean isTold(String sentence, int promise, List<Method> tests) {
        for (Method test : tests) {
            Edge edge = test.getAnnotation(Edge.class);
            if (promise == 0 || edge.promise() == promise) {
                for (String words : edge.says()) {
                    if (sentence.contains(plain(words)) || plain(words).contains(sentence)) {
                        return true;
                    }
                }
            }
        }
        return false;
    }

    private static String promiseText(String page, int promise) {
        String text = between(page, "## Promise " + promise + ":", "\n## ");
        Matcher face = Pattern.compile("`[^`]*\\)`: ").matcher(text);
        return face.find() ? text.substring(face.end()) : text;
    }

    private static String between(String page, String from, String to) {
        int start = page.indexOf(from);
        int end = start < 0 ? -1 : page.indexOf(to, start + from.length());
        Check.that("the document has " + from, start >= 0 && end > start);
        return start < 0 || end < start ? "" : page.substring(start + from.length(), end);
    }

    private static List<String> sentences(String text) {
        List<String> sentences = new ArrayList<>();
        for (String part : SENTENCE_END.split(plain(text))) {
            if (part.strip().matches("(?s).*[A-Za-z].*")) {
                sentences.add(part.strip());
            }
        }
        return sentences;
    }

    private static String plain(String text) {
        return text.replaceAll("=======+|```text|```", " ").replaceAll("\\s+", " ").strip();
    }
}
