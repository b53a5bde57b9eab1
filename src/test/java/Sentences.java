/**
 * Tests of single sentences of the document: each runs calls on a new object of its own and names the
 * sentence that it would find broken.
 */
final class Sentences {
    private static final int MOST_CALLS = 512;
    /** Node numbers that no tree of less than 11 nodes has, the number 12 and wrap-arounds among them. */
    static final String[] NO_NODES = {"-1", "11", "12", "13", "16", "32", "63", "256", "-12", "MIN", "MAX"};
    static final String[] NO_VALUES = {"-1", "32", "33", "63", "64", "256", "-32", "MIN", "MAX"};
    /** Message numbers that never are on their way in a run of less than 100 messages. */
    static final String[] NO_MESSAGES = {"-1", "0", "100", "256", "MIN", "MAX"};

    private final Check check = new Check();
    private String part = "";

    /** Names the part of the document in which the sentences that come next stand. */
    void part(String newPart) {
        part = newPart;
    }

    /**
     * Each row has calls with their due answers, such as "add(1, 5) = true; flush(1) = 1"; an empty row
     * has none.
     */
    void holds(String sentence, int k, int d, String... rows) {
        check.at(part + ": \"" + sentence + "\" (k " + k + ", d " + d + ")");
        TelemetryTree tree = new TelemetryTree(k, d);
        int calls = 0;
        for (String row : rows) {
            for (String part : row.isEmpty() ? new String[0] : row.split("; *")) {
                int sign = part.lastIndexOf(" = ");
                Call call = new Call(part.substring(0, sign).trim());
                check.due("call " + ++calls + ", " + call, call.on(tree), Call.number(part.substring(sign + 3).trim()));
            }
        }
        check.due("the test's calls stay within " + MOST_CALLS, calls <= MOST_CALLS, true);
    }

    void end() {
        check.end();
    }

    /** The row "add(leaf, value) = true" for each value. */
    static String adds(int leaf, int... values) {
        StringBuilder row = new StringBuilder();
        for (int value : values) {
            append(row, "add(" + leaf + ", " + value + ") = true");
        }
        return row.toString();
    }

    static String times(int count, String part) {
        StringBuilder row = new StringBuilder();
        for (int i = 0; i < count; i++) {
            append(row, part);
        }
        return row.toString();
    }

    /** The pattern once for each word, which comes in the place of the '#'. */
    static String each(String pattern, String... words) {
        StringBuilder row = new StringBuilder();
        for (String word : words) {
            append(row, pattern.replace("#", word));
        }
        return row.toString();
    }

    /** The pattern once for each number from first to last, which comes in the place of the '#'. */
    static String count(String pattern, int first, int last) {
        StringBuilder row = new StringBuilder();
        for (int i = first; i <= last; i++) {
            append(row, pattern.replace("#", Integer.toString(i)));
        }
        return row.toString();
    }

    private static void append(StringBuilder row, String part) {
        row.append(row.length() == 0 ? "" : "; ").append(part);
    }
}
