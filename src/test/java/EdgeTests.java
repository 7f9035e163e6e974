import java.lang.reflect.InvocationTargetException;
import java.lang.reflect.Method;
import java.nio.file.Files;
import java.nio.file.Path;
import java.util.ArrayList;
import java.util.Arrays;
import java.util.Comparator;
import java.util.List;
import java.util.TreeMap;
import java.util.regex.Matcher;
import java.util.regex.Pattern;

/**
 * Runs every test of the Edges classes. Each is named after its promise and bears the words of the document that it
 * is for; these must stand there, and all words of the Terms and of the promises must be borne by a test.
 */
public final class EdgeTests extends Check {
    private static final Path DOCUMENT = Path.of("../shared/DOC.md");
    private static final int PROMISES = 34;
    private static final int TERMS = 0;
    private static final Pattern NAME = Pattern.compile("promise(\\d+)_(\\w+?)_(\\w+)");
    private static final Class<?>[] EDGES = {EdgesOfTexts.class, EdgesOfMinutes.class, EdgesOfLooks.class, EdgesOfTrials.class};

    public static void main(String[] args) throws Exception {
        List<Method> tests = tests();
        for (Method edge : tests) {
            run(edge);
        }
        test = "";
        if (Files.isReadable(DOCUMENT)) {
            compareWithDocument(tests, Files.readString(DOCUMENT));
        }
        endWith(tests.size() + " tests, ");
    }

    private static List<Method> tests() {
        List<Method> tests = new ArrayList<>();
        for (Class<?> edges : EDGES) {
            for (Method method : edges.getDeclaredMethods()) {
                if (method.isAnnotationPresent(Says.class)) {
                    tests.add(method);
                }
            }
        }
        tests.sort(Comparator.comparingInt(EdgeTests::promiseOf).thenComparing(Method::getName));
        return tests;
    }

    private static int promiseOf(Method edge) {
        Matcher name = NAME.matcher(edge.getName());
        return name.matches() ? Integer.parseInt(name.group(1)) : NONE;
    }

    private static void run(Method edge) throws Exception {
        test = edge.getName() + ": ";
        int before = asked;
        try {
            edge.invoke(null);
        } catch (InvocationTargetException e) {
            due("throws " + e.getCause(), 1, 0);
        }
        due("asks something", asked > before, true);
    }

    private static void compareWithDocument(List<Method> tests, String document) {
        TreeMap<Integer, String> parts = partsOf(document);
        TreeMap<Integer, boolean[]> borne = new TreeMap<>();
        for (int part : parts.keySet()) {
            borne.put(part, new boolean[parts.get(part).length()]);
        }
        for (Method edge : tests) {
            int promise = promiseOf(edge);
            due(edge.getName() + " is named after a promise", parts.containsKey(promise) && promise != TERMS, true);
            for (String words : edge.getAnnotation(Says.class).value()) {
                boolean found = mark(parts.get(TERMS), borne.get(TERMS), words);
                if (parts.containsKey(promise)) {
                    found |= mark(parts.get(promise), borne.get(promise), words);
                }
                due(edge.getName() + ": the document says '" + words + "'", found, true);
            }
        }
        due("promises of the document", parts.size() - 1, PROMISES);
        for (int part : parts.keySet()) {
            tellWordsWithoutTest(part, parts.get(part), borne.get(part));
        }
    }

    /** By promises what each says, the Terms as number 0, with single blanks. */
    private static TreeMap<Integer, String> partsOf(String document) {
        TreeMap<Integer, String> parts = new TreeMap<>();
        Matcher headings = Pattern.compile("(?ms)^## (Terms|Promise (\\d+): [^\\n]*)\\n(.*?)(?=^## |\\z)").matcher(document);
        while (headings.find()) {
            int part = headings.group(2) == null ? TERMS : Integer.parseInt(headings.group(2));
            String body = headings.group(3).replaceAll("(?m)^```.*$|==== \\d\\.", "").replaceAll("\\s+", " ").trim();
            parts.put(part, body.replaceFirst("^`[^`]*`: ", ""));
        }
        return parts;
    }

    private static boolean mark(String part, boolean[] borne, String words) {
        boolean found = false;
        for (int at = part.indexOf(words); at >= 0; at = part.indexOf(words, at + 1)) {
            Arrays.fill(borne, at, at + words.length(), true);
            found = true;
        }
        return found;
    }

    private static void tellWordsWithoutTest(int part, String text, boolean[] borne) {
        StringBuilder bare = new StringBuilder();
        for (int i = 0; i <= text.length(); i++) {
            if (i < text.length() && !borne[i]) {
                bare.append(text.charAt(i));
            } else {
                if (bare.toString().matches(".*[A-Za-z0-9].*")) {
                    String where = part == TERMS ? "the Terms" : "promise " + part;
                    due("a test for these words of " + where + ": '" + bare.toString().trim() + "'", 0, 1);
                }
                bare.setLength(0);
            }
        }
    }
}
