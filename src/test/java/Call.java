import java.util.ArrayList;
import java.util.List;

/** A call as the tests write it, such as "add(1, 5)"; a boolean counts 1 or 0, as argument and as answer. */
final class Call {
    private final String text;
    private final String name;
    private final int[] arguments;

    Call(String text) {
        this.text = text;
        int bracket = text.indexOf('(');
        name = text.substring(0, bracket);
        String inner = text.substring(bracket + 1, text.indexOf(')')).trim();
        String[] words = inner.isEmpty() ? new String[0] : inner.split(", *");
        arguments = new int[words.length];
        for (int i = 0; i < words.length; i++) {
            arguments[i] = (int) number(words[i]);
        }
    }

    /** The calls of a row such as "flush(1); total(1)". */
    static List<Call> all(String row) {
        List<Call> calls = new ArrayList<>();
        for (String part : row.split("; *")) {
            calls.add(new Call(part.trim()));
        }
        return calls;
    }

    static long number(String word) {
        return switch (word) {
            case "true" -> 1;
            case "false" -> 0;
            case "MIN" -> Integer.MIN_VALUE;
            case "MAX" -> Integer.MAX_VALUE;
            default -> Long.parseLong(word);
        };
    }

    long on(TelemetryTree tree) {
        return switch (name) {
            case "attach" -> tree.attach(arguments[0], flag(1));
            case "add" -> tree.add(arguments[0], arguments[1]) ? 1 : 0;
            case "flush" -> tree.flush(arguments[0]);
            case "crash" -> tree.crash(arguments[0]) ? 1 : 0;
            case "report" -> tree.report(arguments[0]);
            case "copy" -> tree.copy(arguments[0]);
            case "drop" -> tree.drop(arguments[0]) ? 1 : 0;
            case "deliver" -> tree.deliver(arguments[0]);
            case "onTheWay" -> tree.onTheWay();
            case "total" -> tree.total(arguments[0]);
            case "sum" -> tree.sum(arguments[0]);
            case "extreme" -> tree.extreme(arguments[0], flag(1));
            case "covered" -> tree.covered(arguments[0], arguments[1]);
            case "estimate" -> tree.estimate(arguments[0], arguments[1]);
            case "top" -> tree.top(arguments[0], arguments[1]);
            case "digestSize" -> tree.digestSize(arguments[0]);
            case "below" -> tree.below(arguments[0], arguments[1], flag(2));
            case "quantile" -> tree.quantile(arguments[0], arguments[1]);
            default -> throw new IllegalArgumentException("no such call: " + text);
        };
    }

    private boolean flag(int i) {
        return arguments[i] == 1;
    }

    @Override
    public String toString() {
        return text;
    }
}
