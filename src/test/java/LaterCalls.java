import java.util.ArrayList;
import java.util.List;

/** What is asked and done after a call that should have changed nothing; each list starts anew from the situation. */
final class LaterCalls {
    private static final int MOST_NODES = 12;

    private LaterCalls() {}

    static List<List<Call>> all() {
        List<List<Call>> lists = new ArrayList<>();
        for (int node = 0; node <= MOST_NODES; node++) {
            lists.add(Call.all("onTheWay(); " + questions(Integer.toString(node))));
        }
        for (int leaf = 1; leaf < MOST_NODES; leaf++) {
            lists.add(Call.all(fill(leaf) + "; flush(" + leaf + "); " + questions(Integer.toString(leaf))));
        }
        for (int node = 0; node < MOST_NODES; node++) {
            lists.add(withBriefQuestions("crash(" + node + ")"));
        }
        String deliverAll = Sentences.count("deliver(#)", 1, 30);
        String deliverNewestFirst = newestFirst();
        String reportAll = Sentences.count("report(#)", 0, MOST_NODES);
        lists.add(withBriefQuestions(Sentences.count("flush(#)", 0, MOST_NODES)));
        lists.add(withBriefQuestions("attach(0, true); attach(1, false); attach(0, false); "
            + Sentences.count("attach(#, true); add(#, 5); flush(#)", 0, MOST_NODES)));
        lists.add(withBriefQuestions(deliverAll));
        lists.add(withBriefQuestions(deliverNewestFirst));
        lists.add(withBriefQuestions(reportAll + "; onTheWay(); " + deliverAll));
        lists.add(withBriefQuestions(deliverAll + "; " + reportAll + "; onTheWay(); " + deliverAll));
        lists.add(withBriefQuestions(reportAll + "; onTheWay(); " + deliverNewestFirst));
        lists.add(withBriefQuestions(Sentences.count("crash(#)", 0, MOST_NODES) + "; " + deliverAll));
        lists.add(withBriefQuestions(Sentences.count("copy(#)", 0, 16) + "; onTheWay(); " + deliverAll));
        lists.add(withBriefQuestions(Sentences.count("drop(#)", 0, 16) + "; onTheWay(); " + reportAll + "; "
            + deliverAll));
        lists.add(withBriefQuestions("drop(4); drop(7); report(1); copy(5); report(2); report(3); onTheWay(); "
            + deliverNewestFirst));
        return lists;
    }

    static String questions(String node) {
        return "total(#); sum(#); extreme(#, false); extreme(#, true); digestSize(#)".replace("#", node)
            + "; " + Sentences.each("quantile(" + node + ", #)", "0", "1", "250", "333", "500", "667", "1000")
            + "; " + Sentences.count("covered(" + node + ", #)", 0, MOST_NODES)
            + "; " + Sentences.count("estimate(" + node + ", #)", 0, 31)
            + "; " + Sentences.count("top(" + node + ", #)", 0, 6)
            + "; " + Sentences.count("below(" + node + ", #, false); below(" + node + ", #, true)", 0, 32);
    }

    private static String fill(int leaf) {
        StringBuilder row = new StringBuilder("total(" + leaf + ")");
        for (int i = 0; i < 50; i++) {
            row.append("; add(").append(leaf).append(", ").append(i * 7 % 32).append(")");
        }
        return row.toString();
    }

    private static String newestFirst() {
        StringBuilder row = new StringBuilder("deliver(30)");
        for (int message = 29; message >= 1; message--) {
            row.append("; deliver(").append(message).append(")");
        }
        return row.toString();
    }

    private static List<Call> withBriefQuestions(String row) {
        String brief = "total(#); sum(#); extreme(#, false); extreme(#, true); digestSize(#); top(#, 0); top(#, 1); "
            + "estimate(#, 5); below(#, 8, false); below(#, 8, true); quantile(#, 500); "
            + "covered(#, 1); covered(#, 2); covered(#, 3)";
        return Call.all(row + "; onTheWay(); " + Sentences.count(brief, 0, MOST_NODES));
    }
}
