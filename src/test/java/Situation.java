import java.util.ArrayList;
import java.util.List;

/** A state of a TelemetryTree, reached by calls; it tells whether a call that is made in it changes anything. */
final class Situation {
    private static final int MOST_CALLS = 512;

    private final Check check;
    private final String name;
    private final List<Call> calls;
    private final List<List<Call>> later = LaterCalls.all();
    private final List<long[]> dueLater = new ArrayList<>();

    /** The situation that comes about by the calls of the rows, with so many messages on their way in the end. */
    Situation(Check check, String name, int onTheWay, String... rows) {
        this.check = check;
        this.name = name;
        calls = rows.length == 0 ? new ArrayList<>() : Call.all(String.join("; ", rows));
        check.at(name);
        check.due("onTheWay()", made().onTheWay(), onTheWay);
        for (List<Call> list : later) {
            dueLater.add(answers(made(), list));
            check.due("the test's calls stay within " + MOST_CALLS, calls.size() + 1 + list.size() <= MOST_CALLS, true);
        }
    }

    private TelemetryTree made() {
        TelemetryTree tree = new TelemetryTree(2, 4);
        answers(tree, calls);
        return tree;
    }

    private static long[] answers(TelemetryTree tree, List<Call> list) {
        long[] result = new long[list.size()];
        for (int i = 0; i < result.length; i++) {
            result[i] = list.get(i).on(tree);
        }
        return result;
    }

    /** Each call of the row, made in this situation, is answered so and changes nothing. */
    void refuses(String sentence, String row, long due) {
        for (Call call : Call.all(row)) {
            check.at("\"" + sentence + "\", " + name);
            check.due(call.toString(), call.on(made()), due);
            findsNoChange(call);
        }
    }

    /** Each call of the row, whatever it answers in this situation, changes nothing. */
    void staysWith(String sentence, String row) {
        for (Call call : Call.all(row)) {
            check.at("\"" + sentence + "\", " + name);
            findsNoChange(call);
        }
    }

    private void findsNoChange(Call between) {
        for (int i = 0; i < later.size() && check.fewWrong(); i++) {
            TelemetryTree tree = made();
            between.on(tree);
            long[] got = answers(tree, later.get(i));
            for (int j = 0; j < got.length; j++) {
                check.due("after " + between + ", " + later.get(i).get(j), got[j], dueLater.get(i)[j]);
            }
        }
    }
}
