import java.io.IOException;
import java.lang.reflect.Field;
import java.lang.reflect.Method;
import java.lang.reflect.Modifier;
import java.nio.file.Files;
import java.nio.file.Path;
import java.util.Set;
import java.util.TreeSet;
import java.util.regex.Matcher;
import java.util.regex.Pattern;

/** The rules of LANGUAGE.md that can be seen in the source, in the compiled classes, or by making calls. */
public final class LanguageTest {
    private static final Check CHECK = new Check();
    private static final Path SOURCE = Path.of("src/main/java/TelemetryTree.java");
    private static final String[] NO_WORDS = {
        "package", "import (?!java\\.util\\.(ArrayList|List|Arrays|Iterator);)", "throw", "throws", "try", "catch",
        "finally", "synchronized", "assert", "protected", "hashCode", "System\\.(?!arraycopy)", "Thread", "Random", "NaN",
    };
    private static final int MOST_CLASSES = 12;
    private static final int MOST_FIELDS = 20;
    private static final int MOST_PARAMETERS = 7;
    private static final int MOST_LINES = 60;

    private static final String[] EDGES = {
        "MIN", "-1001", "-33", "-13", "-2", "-1", "0", "1", "2", "3", "4", "11", "12", "13", "31", "32", "33", "63",
        "64", "999", "1000", "1001", "MAX",
    };
    private static final String[] CALLS = {
        "attach(#, ?)", "add(#, %)", "add(#, %)", "flush(#)", "crash(#)", "report(#)", "report(#)", "copy(@)",
        "drop(@)", "deliver(@)", "deliver(@)", "onTheWay()", "total(#)", "sum(#)", "extreme(#, ?)", "covered(#, %)",
        "estimate(#, %)", "top(#, %)", "digestSize(#)", "below(#, %, ?)", "quantile(#, %)",
    };

    private LanguageTest() {}

    public static void main(String[] args) throws IOException {
        String code = withoutComments(Files.readString(SOURCE));
        words(code);
        methodLines(code);
        Class<?>[] inside = TelemetryTree.class.getDeclaredClasses();
        CHECK.at("rule 11");
        CHECK.due("classes are few", 1 + inside.length <= MOST_CLASSES, true);
        namesOfTheFace(TelemetryTree.class);
        members(TelemetryTree.class);
        for (Class<?> type : inside) {
            nestedClass(type);
            namesOfTheFace(type);
            members(type);
        }
        anyCallEnds();
        CHECK.end();
    }

    private static String withoutComments(String source) {
        return source.replaceAll("(?s)/\\*.*?\\*/", "").replaceAll("//[^\n]*", "");
    }

    private static void words(String code) {
        CHECK.at("rules 2, 4, 6 and 13");
        for (String word : NO_WORDS) {
            CHECK.due("uses of " + word, count("\\b" + word + (word.endsWith(")") ? "" : "\\b"), code), 0);
        }
        CHECK.due("lambdas and method references", count("->|::", code), 0);
        CHECK.due("static initialiser blocks", count("static\\s*\\{", code), 0);
    }

    private static int count(String pattern, String code) {
        Matcher matcher = Pattern.compile(pattern).matcher(code);
        int found = 0;
        while (matcher.find()) {
            found++;
        }
        return found;
    }

    /** A method begins with a line that opens a brace behind a bracket and ends with a brace as far in. */
    private static void methodLines(String code) {
        CHECK.at("rule 11");
        String[] lines = code.split("\n");
        Pattern head = Pattern.compile("^( {4}| {8})[A-Za-z].*\\) \\{$");
        for (int i = 0; i < lines.length; i++) {
            Matcher matcher = head.matcher(lines[i]);
            if (matcher.matches()) {
                int end = i;
                while (end < lines.length && !lines[end].equals(matcher.group(1) + "}")) {
                    end++;
                }
                CHECK.due("lines are few of" + lines[i], end - i < MOST_LINES, true);
            }
        }
    }

    private static void nestedClass(Class<?> type) {
        CHECK.at("rules 1 and 2, " + type.getName());
        CHECK.due("is static", Modifier.isStatic(type.getModifiers()), true);
        CHECK.due("is private or package-visible", type.getModifiers() & (Modifier.PUBLIC | Modifier.PROTECTED), 0);
        CHECK.due("has no class inside", type.getDeclaredClasses().length, 0);
    }

    private static void namesOfTheFace(Class<?> type) {
        CHECK.at("rule 1, " + type.getName());
        Set<String> face = new TreeSet<>();
        for (Method method : TelemetryTree.class.getMethods()) {
            if (method.getDeclaringClass() == TelemetryTree.class) {
                face.add(method.getName());
            }
        }
        for (Method method : type.getDeclaredMethods()) {
            boolean hidden = !Modifier.isPublic(method.getModifiers());
            CHECK.due(method + " bears a public one's name", hidden && face.contains(method.getName()), false);
        }
    }

    private static void members(Class<?> type) {
        CHECK.at("rules 5 and 11, " + type.getName());
        int fields = 0;
        for (Field field : type.getDeclaredFields()) {
            boolean shared = Modifier.isStatic(field.getModifiers());
            fields += shared ? 0 : 1;
            CHECK.due(field + " is final if static", !shared || Modifier.isFinal(field.getModifiers()), true);
        }
        CHECK.due("fields are few", fields <= MOST_FIELDS, true);
        for (Method method : type.getDeclaredMethods()) {
            CHECK.due("parameters of " + method + " are few", method.getParameterCount() <= MOST_PARAMETERS, true);
        }
    }

    /** Rule 7: no call may throw for any arguments in any state, and so not after the 512th call either. */
    private static void anyCallEnds() {
        Draws draws = new Draws(1);
        for (int i = 0; i < 40; i++) {
            TelemetryTree tree = new TelemetryTree((int) Call.number(edge(draws)), (int) Call.number(edge(draws)));
            int last = 0;
            for (int j = 0; j < 2000; j++) {
                last = Math.max(last, ends(drawn(draws, last), tree));
            }
        }
    }

    /** '#' is for a node, '%' for a value, '@' for a message, '?' for a boolean. */
    private static Call drawn(Draws draws, int lastMessage) {
        return new Call(CALLS[draws.upTo(CALLS.length)]
            .replace("#", draws.upTo(2) == 0 ? edge(draws) : Integer.toString(draws.upTo(12)))
            .replace("%", draws.upTo(2) == 0 ? edge(draws) : Integer.toString(draws.upTo(32)))
            .replace("@", draws.upTo(2) == 0 ? edge(draws) : Integer.toString(lastMessage - draws.upTo(9)))
            .replace("?", draws.upTo(2) == 0 ? "true" : "false"));
    }

    private static String edge(Draws draws) {
        return EDGES[draws.upTo(EDGES.length)];
    }

    private static int ends(Call call, TelemetryTree tree) {
        CHECK.at("rule 7");
        boolean thrown = false;
        long answer = 0;
        try {
            answer = call.on(tree);
        } catch (RuntimeException | Error e) {
            thrown = true;
        }
        CHECK.due(call + " throws", thrown, false);
        return call.toString().startsWith("report") || call.toString().startsWith("copy") ? (int) answer : 0;
    }
}
