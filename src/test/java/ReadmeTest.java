import java.io.IOException;
import java.lang.reflect.Method;
import java.nio.file.Files;
import java.nio.file.Path;
import java.util.Set;
import java.util.TreeSet;
import java.util.regex.Matcher;
import java.util.regex.Pattern;

/** README.md says how to use the class: its run answers as it tells, and it names every call of the face. */
public final class ReadmeTest {
    private static final Check CHECK = new Check();
    private static final Pattern MADE = Pattern.compile("new TelemetryTree\\((\\d+), (\\d+)\\);");
    private static final Pattern CALL = Pattern.compile("(?m)^tree\\.(\\w+\\([^)]*\\)); +// (true|false|-?\\d+)(:.*)?$");
    private static final Pattern ROW = Pattern.compile("(?m)^\\| `(\\w+)\\(([^)]*)\\)` \\| .+ \\|$");

    private ReadmeTest() {}

    public static void main(String[] args) throws IOException {
        String readme = Files.readString(Path.of("README.md"));
        CHECK.at("README.md");
        Set<String> face = face();
        CHECK.due("calls of the run " + face, run(readme).equals(face), true);
        face.add("TelemetryTree");
        CHECK.due("calls of the table " + face, table(readme).equals(face), true);
        CHECK.due("it says how to run the tests", readme.contains("\n    .ci/run\n"), true);
        CHECK.end();
    }

    private static Set<String> face() {
        Set<String> names = new TreeSet<>();
        for (Method method : TelemetryTree.class.getMethods()) {
            if (method.getDeclaringClass() == TelemetryTree.class) {
                names.add(method.getName());
            }
        }
        return names;
    }

    private static Set<String> run(String readme) {
        Set<String> names = new TreeSet<>();
        Matcher made = MADE.matcher(readme);
        if (!made.find()) {
            return names;
        }
        TelemetryTree tree = new TelemetryTree(Integer.parseInt(made.group(1)), Integer.parseInt(made.group(2)));
        Matcher line = CALL.matcher(readme);
        while (line.find()) {
            Call call = new Call(line.group(1));
            CHECK.due(call.toString(), call.on(tree), Call.number(line.group(2)));
            names.add(line.group(1).substring(0, line.group(1).indexOf('(')));
        }
        CHECK.due("each line of the run has an answer", lines(readme), readme.split("\ntree\\.", -1).length - 1);
        return names;
    }

    private static int lines(String readme) {
        Matcher line = CALL.matcher(readme);
        int count = 0;
        while (line.find()) {
            count++;
        }
        return count;
    }

    private static Set<String> table(String readme) {
        Set<String> names = new TreeSet<>();
        Matcher row = ROW.matcher(readme);
        while (row.find()) {
            names.add(row.group(1));
        }
        return names;
    }
}
