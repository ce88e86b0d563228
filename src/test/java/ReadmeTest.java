import java.io.File;
import java.io.IOException;
import java.lang.reflect.Method;
import java.lang.reflect.Modifier;
import java.net.URL;
import java.net.URLClassLoader;
import java.nio.file.Files;
import java.nio.file.Path;
import java.util.ArrayList;
import java.util.Comparator;
import java.util.List;
import java.util.Set;
import java.util.TreeSet;
import java.util.regex.Matcher;
import java.util.regex.Pattern;
import java.util.stream.Stream;
import javax.tools.ToolProvider;

/**
 * What README.md tells of the class's use. Its blocks of Java are one program, whose every call has its answer beside
 * it: the program is compiled and run as it stands there, on the class and on the model.
 */
public final class ReadmeTest {
    private static final Path README = Path.of("README.md");
    private static final Path TESTS = Path.of("src/test/java");
    private static final String SOURCES = "src/main/java" + File.pathSeparator + TESTS;
    private static final Pattern BLOCK = Pattern.compile("(?ms)^```java\n(.*?)^```$");
    private static final Pattern CALL = Pattern.compile("(?:(?:int|long) (\\w+) = )?(\\w+\\.(\\w+)\\(.*?\\));(.*)");
    private static final Pattern ANSWER = Pattern.compile(" *// (-?\\d+): (\\w*).*");
    private static final Pattern TEST_NAME = Pattern.compile("`(\\w+(?:Test|Edges))`");
    private static final List<String> FINDINGS = List.of("BEYOND", "FULL", "KIND", "NONE", "STATE", "MISSING", "SIZE");
    private static final Check CHECK = new Check();

    private final StringBuilder program = new StringBuilder();
    private final List<String> calls = new ArrayList<>();
    private final List<Long> answers = new ArrayList<>();
    private final Set<String> names = new TreeSet<>();
    private final Set<String> findings = new TreeSet<>();

    public static void main(String[] args) throws Exception {
        String readme = Files.readString(README);
        ReadmeTest test = new ReadmeTest();
        Matcher block = BLOCK.matcher(readme);
        while (block.find()) {
            block.group(1).lines().forEach(test::take);
        }
        test.showsAll();
        test.answersAsTold("CrowLikeness");
        test.answersAsTold("Model");
        namesTests(readme);
        CHECK.end("ReadmeTest");
    }

    /** Lines that are no call of their own, as those of a loop, go into the program as they are. */
    private void take(String line) {
        Matcher call = CALL.matcher(line);
        if (!call.matches()) {
            program.append(line).append('\n');
            return;
        }
        Matcher answer = ANSWER.matcher(call.group(4));
        boolean isAnswered = answer.matches();
        CHECK.holds("README.md has an answer beside " + line, isAnswered);
        if (isAnswered) {
            takeAnswer(Long.parseLong(answer.group(1)), answer.group(2));
            names.add(call.group(3));
            boolean isNamed = call.group(1) != null;
            program.append(isNamed ? line + "\n" : "");
            program.append("answers[").append(calls.size()).append("] = ");
            program.append(isNamed ? call.group(1) : call.group(2)).append(";\n");
            calls.add(call.group(2));
        }
    }

    private void takeAnswer(long answer, String word) {
        answers.add(answer);
        if (answer < -1000000000L) {
            CHECK.due("the number of " + word, answer, -1000000001L - FINDINGS.indexOf(word));
            findings.add(word);
        }
    }

    private void showsAll() {
        for (Method m : CrowLikeness.class.getDeclaredMethods()) {
            boolean isShown = !Modifier.isPublic(m.getModifiers()) || names.contains(m.getName());
            CHECK.holds("README.md shows " + m.getName(), isShown);
        }
        CHECK.holds("README.md shows each finding, not only " + findings, findings.containsAll(FINDINGS));
    }

    private void answersAsTold(String tested) throws Exception {
        Path dir = Files.createTempDirectory("readme");
        try {
            long[] got = run(dir, tested);
            for (int i = 0; i < got.length; i++) {
                CHECK.due("README.md: " + calls.get(i) + " of " + tested, got[i], answers.get(i));
            }
        } finally {
            remove(dir);
        }
    }

    private long[] run(Path dir, String tested) throws Exception {
        Path source = dir.resolve("ReadmeUse.java");
        Files.writeString(source, "public final class ReadmeUse {\n"
            + "public static long[] answers() {\nlong[] answers = new long[" + calls.size() + "];\n"
            + program.toString().replaceAll("\\bCrowLikeness\\b", tested) + "return answers;\n}\n}\n");
        int code = ToolProvider.getSystemJavaCompiler().run(null, null, null, "--release", "17", "-encoding", "UTF-8",
            "-classpath", dir.toString(), "-sourcepath", SOURCES, "-d", dir.toString(), source.toString());
        CHECK.due("javac of README.md's program for " + tested, code, 0);
        if (code != 0) {
            return new long[0];
        }
        // Apart from the classes of this test, as those that see one another's members have to come by one loader.
        try (URLClassLoader loader = new URLClassLoader(new URL[] {dir.toUri().toURL()},
                ClassLoader.getPlatformClassLoader())) {
            return (long[]) loader.loadClass("ReadmeUse").getMethod("answers").invoke(null);
        }
    }

    private static void remove(Path dir) throws IOException {
        List<Path> all;
        try (Stream<Path> files = Files.walk(dir)) {
            all = files.sorted(Comparator.reverseOrder()).toList();
        }
        for (Path file : all) {
            Files.delete(file);
        }
    }

    private static void namesTests(String readme) throws IOException {
        int from = readme.indexOf("\n## Tests\n");
        CHECK.holds("README.md tells of its tests", from >= 0);
        String told = readme.substring(Math.max(0, from));
        CHECK.holds("README.md tells how to run them", told.contains("\n    bash .ci/run\n"));
        CHECK.holds(".ci/run can be run", Files.isExecutable(Path.of(".ci/run")));
        Set<String> named = new TreeSet<>();
        Matcher name = TEST_NAME.matcher(told);
        while (name.find()) {
            named.add(name.group(1));
        }
        Set<String> there = new TreeSet<>();
        try (Stream<Path> files = Files.list(TESTS)) {
            files.map(file -> file.getFileName().toString().replace(".java", ""))
                .filter(file -> TEST_NAME.matcher("`" + file + "`").matches()).forEach(there::add);
        }
        CHECK.holds("README.md names the tests that are there, " + there + ", not " + named, named.equals(there));
    }
}
