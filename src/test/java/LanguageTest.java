import java.lang.management.ManagementFactory;
import java.lang.reflect.Constructor;
import java.lang.reflect.Field;
import java.lang.reflect.Method;
import java.lang.reflect.Modifier;
import java.nio.file.Files;
import java.nio.file.Path;
import java.util.ArrayList;
import java.util.HashSet;
import java.util.List;
import java.util.Set;
import java.util.TreeSet;
import java.util.regex.Matcher;
import java.util.regex.Pattern;

/** What LANGUAGE.md asks, as far as a look at the class and at its text can tell. */
public final class LanguageTest {
    private static final String SOURCE = "src/main/java/CrowLikeness.java";
    private static final String[] FACE = {"wheat(int,int)", "cell(int,int)", "crows(int)", "sitter(int)", "of(int,int)",
        "set(int,int,int)", "turn(int,int)", "as(int,int)", "likeness(int,int)", "told(int,int)",
        "place(int,int,int)", "scares(int,int)", "lands()", "days(int)", "now(int)", "on(int,int)", "eaten(int)",
        "first(int)", "spot(int,int)", "whose(int,int)", "kind(int,int)", "temper(int,int)", "keep(int)",
        "worth(int)", "apart(int)", "swap(int)", "feed(int,int)", "wipe()", "plain()", "sheet(int,int,int)",
        "write(int,int,long)", "copy(int,int,int,int,int)", "lays(int)", "book(int)", "read(int,int)", "image()",
        "undo()", "tear()", "count(int)", "status(int)"};
    private static final String[] NEVER = {"\\bthrow\\b", "\\bthrows\\b", "\\btry\\b", "\\bcatch\\b",
        "\\bsynchronized\\b", "\\bassert\\b", "->", "::", "Exact\\b", "MAX_VALUE", "MIN_VALUE", "\\bvar\\b",
        "\\bThread\\b", "\\bRandom\\b", "\\bStream\\b", "nanoTime", "currentTime", "hashCode", "\\bObject\\b",
        "printStackTrace", "\\bgoto\\b", "System\\.(?!arraycopy)", "Arrays\\.(?!fill)",
        "Math\\.(?!max\\b|min\\b|abs\\b)", "\\bpackage\\b", "static \\{", "[^\\x00-\\x7f]"};

    private static final Check CHECK = new Check();

    public static void main(String[] args) throws Exception {
        face();
        classesInside();
        text(Files.readString(Path.of(SOURCE)));
        room();
        CHECK.end("LanguageTest");
    }

    private static String told(Method m) {
        List<String> types = new ArrayList<>();
        for (Class<?> type : m.getParameterTypes()) {
            types.add(type.getSimpleName());
        }
        return m.getName() + "(" + String.join(",", types) + ")";
    }

    private static void face() {
        Set<String> due = new TreeSet<>(List.of(FACE));
        Set<String> open = new TreeSet<>();
        for (Method m : CrowLikeness.class.getDeclaredMethods()) {
            boolean isPrivate = Modifier.isPrivate(m.getModifiers());
            CHECK.holds(m + " is public or private", isPrivate || Modifier.isPublic(m.getModifiers()));
            if (!isPrivate) {
                open.add(told(m));
                Class<?> answer = m.getName().equals("write") ? long.class : int.class;
                CHECK.holds(m + " answers " + answer, m.getReturnType() == answer);
            }
        }
        CHECK.holds("the face is " + due + ", not " + open, due.equals(open));
        for (Field f : CrowLikeness.class.getDeclaredFields()) {
            CHECK.holds(f + " is private", Modifier.isPrivate(f.getModifiers()));
        }
        Constructor<?>[] made = CrowLikeness.class.getDeclaredConstructors();
        CHECK.holds("one constructor, public, without arguments",
            made.length == 1 && Modifier.isPublic(made[0].getModifiers()) && made[0].getParameterCount() == 0);
        CHECK.holds("public final", Modifier.isFinal(CrowLikeness.class.getModifiers()));
    }

    private static void classesInside() {
        Set<String> names = new HashSet<>();
        for (String call : FACE) {
            names.add(call.substring(0, call.indexOf('(')));
        }
        List<Class<?>> all = new ArrayList<>(List.of(CrowLikeness.class.getDeclaredClasses()));
        CHECK.holds("at most 12 classes", all.size() < 12);
        all.add(CrowLikeness.class);
        for (Class<?> c : all) {
            boolean isOuter = c == CrowLikeness.class;
            CHECK.holds(c + " is static", isOuter || Modifier.isStatic(c.getModifiers()));
            int fields = 0;
            for (Field f : c.getDeclaredFields()) {
                boolean isStatic = Modifier.isStatic(f.getModifiers());
                fields += isStatic ? 0 : 1;
                CHECK.holds(f + " is final, if it is static", !isStatic || Modifier.isFinal(f.getModifiers()));
            }
            CHECK.holds(c + " has at most 20 fields", fields <= 20);
            for (Method m : c.getDeclaredMethods()) {
                boolean isFace = isOuter && Modifier.isPublic(m.getModifiers());
                CHECK.holds(m + " bears a name of its own", isFace || !names.contains(m.getName()));
                CHECK.holds(m + " takes at most 7", m.getParameterCount() <= 7);
            }
        }
    }

    private static void text(String source) {
        String code = source.replaceAll("(?s)/\\*.*?\\*/", "").replaceAll("//[^\n]*", "").replaceAll("\"[^\"\n]*\"", "");
        for (String never : NEVER) {
            Matcher m = Pattern.compile(never).matcher(code);
            CHECK.holds("no " + never, !m.find());
        }
        for (String line : code.split("\n")) {
            CHECK.holds("no import but Arrays: " + line,
                !line.startsWith("import") || line.equals("import java.util.Arrays;"));
        }
        int open = -1;
        String[] lines = source.split("\n");
        for (int i = 0; i < lines.length; i++) {
            boolean isHead = lines[i].matches(" +(public |private |static )*[\\w\\[\\]]+ \\w+\\(.*\\) \\{");
            open = isHead && !lines[i].contains(" else ") ? i : open;
            boolean isEnd = open >= 0 && lines[i].matches(" +}") && indent(lines[i]) == indent(lines[open]);
            if (isEnd) {
                CHECK.holds("at most 60 lines: " + lines[open].trim(), i - open < 60);
                open = -1;
            }
        }
    }

    private static int indent(String line) {
        return line.length() - line.stripLeading().length();
    }

    /** No call may make anything: all calls of a run share one room. */
    private static void room() {
        com.sun.management.ThreadMXBean threads =
            (com.sun.management.ThreadMXBean) ManagementFactory.getThreadMXBean();
        long id = Thread.currentThread().getId();
        CrowLikeness x = new CrowLikeness();
        Check.plainOf(x, "bailiff temper 20; lady; dead temper 20; likeness 0 at 4; likeness 1 at 30; likeness 2 at 40");
        Check.plainOf(x, "likeness 0 at 5; likeness 1 at 31; likeness 2 at 41; crows 20; wheat 0 90 to 47");
        x.sheet(0, 64, 40);
        dear(x);
        long before = threads.getThreadAllocatedBytes(id);
        for (int i = 0; i < 10; i++) {
            dear(x);
        }
        long made = threads.getThreadAllocatedBytes(id) - before;
        CHECK.holds("the dearest calls make nothing, not " + made + " bytes", made < 4096);
    }

    private static void dear(CrowLikeness x) {
        x.image();
        x.spot(0, 20);
        x.whose(0, 20);
        x.kind(0, 20);
        x.temper(0, 20);
        x.keep(10);
        x.worth(20);
        x.apart(0);
        x.swap(20);
        x.book(0);
        x.read(0, 0);
        x.feed(0x64656164, 4);
        x.plain();
        x.days(60);
        x.first(0);
        x.undo();
    }
}
