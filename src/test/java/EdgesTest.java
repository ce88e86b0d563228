import java.lang.reflect.InvocationTargetException;
import java.lang.reflect.Method;
import java.nio.file.Files;
import java.nio.file.Path;
import java.util.ArrayList;
import java.util.Arrays;
import java.util.Comparator;
import java.util.List;
import java.util.regex.Matcher;
import java.util.regex.Pattern;

/**
 * Runs the tests of boundary cases, each named by its promise's number, and looks whether each holds to words that
 * stand in the document, and whether any of the document's words are left to which none does.
 */
public final class EdgesTest {
    private static final Path DOCUMENT = Path.of("../shared/DOC.md");
    private static final Pattern NAME = Pattern.compile("p(\\d\\d)_\\w+");
    private static final int PROMISES = 41;
    private static final List<Class<?>> CLASSES = List.of(PlainEdges.class, SittersEdges.class, LikenessesEdges.class,
        DaysEdges.class, BestEdges.class, TextEdges.class, SheetsEdges.class, ImagesEdges.class);

    /** A part of the document, and which of its signs some test quotes. */
    private static final class Part {
        final String name;
        final String text;
        final boolean[] isQuoted;

        Part(String name, String text) {
            this.name = name;
            this.text = oneLine(text);
            this.isQuoted = new boolean[this.text.length()];
        }

        boolean quote(String words) {
            boolean isThere = false;
            for (int at = text.indexOf(words); at >= 0; at = text.indexOf(words, at + 1)) {
                Arrays.fill(isQuoted, at, at + words.length(), true);
                isThere = true;
            }
            return isThere;
        }

        /** Words that no test quotes, with what stands between them and those that one does. */
        List<String> unquoted() {
            List<String> left = new ArrayList<>();
            StringBuilder run = new StringBuilder();
            for (int i = 0; i <= text.length(); i++) {
                if (i < text.length() && !isQuoted[i]) {
                    run.append(text.charAt(i));
                } else {
                    if (run.chars().anyMatch(Character::isLetterOrDigit)) {
                        left.add(run.toString());
                    }
                    run.setLength(0);
                }
            }
            return left;
        }
    }

    private final Part terms;
    private final List<Part> promises = new ArrayList<>();
    private final int[] tests = new int[PROMISES + 1];

    private EdgesTest(String document) {
        int from = document.indexOf("## Terms");
        // Behind the numbered sections stand only the headings of the interface, which promise nothing.
        terms = new Part("Terms", document.substring(from + 8, document.indexOf("Ahead of the calls", from))
            .replaceAll("```(text)?", "").replaceAll("(?m)^[123]\\. ", ""));
        for (int p = 1; p <= PROMISES; p++) {
            Matcher m = Pattern.compile("## Promise " + p + ": [^\n]*\n\n`[^`]*`: ([^\n]*)").matcher(document);
            Edge.holds("promise " + p + " stands in the document", m.find());
            promises.add(new Part("Promise " + p, m.group(1)));
        }
    }

    public static void main(String[] args) throws Exception {
        new EdgesTest(Files.readString(DOCUMENT)).go();
        System.out.println("EdgesTest: " + (Edge.asked() - Edge.wrong()) + " of " + Edge.asked() + " as due");
        if (Edge.wrong() != 0) {
            System.exit(1);
        }
    }

    private static String oneLine(String text) {
        return text.replaceAll("\\s+", " ").trim();
    }

    private void go() throws IllegalAccessException {
        int run = 0;
        for (Class<?> tested : CLASSES) {
            Method[] methods = tested.getDeclaredMethods();
            Arrays.sort(methods, Comparator.comparing(Method::getName));
            for (Method m : methods) {
                if (m.isAnnotationPresent(Says.class)) {
                    runOne(m);
                    run++;
                } else {
                    Edge.holds(m.getName() + " is a test and quotes nothing", !NAME.matcher(m.getName()).matches());
                }
            }
        }
        Edge.begin("the document");
        for (int p = 1; p <= PROMISES; p++) {
            Edge.holds("promise " + p + " has a test", tests[p] > 0);
            tellUnquoted(promises.get(p - 1));
        }
        tellUnquoted(terms);
        System.out.println(run + " tests of boundary cases");
    }

    private void runOne(Method m) throws IllegalAccessException {
        Edge.begin(m.getName());
        Matcher name = NAME.matcher(m.getName());
        Edge.holds("it is named by a promise's number", name.matches());
        int p = Integer.parseInt(name.group(1));
        tests[p]++;
        for (String words : m.getAnnotation(Says.class).value()) {
            boolean isPromised = promises.get(p - 1).quote(oneLine(words));
            boolean isTerm = terms.quote(oneLine(words));
            Edge.holds("the document says: " + words, isPromised || isTerm);
        }
        try {
            m.invoke(null);
        } catch (InvocationTargetException e) {
            Edge.holds("no exception, but " + e.getCause(), false);
        }
    }

    private static void tellUnquoted(Part part) {
        for (String words : part.unquoted()) {
            Edge.holds(part.name + " says, and no test holds to it: " + words, false);
        }
    }
}
