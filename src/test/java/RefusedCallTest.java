/**
 * "A call that is refused changes nothing." Each refused call of the document is made in a situation
 * where it might do harm; what later calls answer is compared with what they answer without it.
 */
public final class RefusedCallTest {
    private static final Check CHECK = new Check();

    private RefusedCallTest() {}

    public static void main(String[] args) {
        onNewObject();
        Situation busy = busy();
        attachChangesNothing(busy);
        addChangesNothing(busy);
        flushAndCrashChangeNothing(busy);
        reportChangesNothing(busy);
        messagesChangeNothing(busy);
        questionsChangeNothing(busy);
        answeredQuestionsChangeNothing(busy);
        withTwelveNodes();
        withTwelveMessages();
        withFullLeaves();
        CHECK.end();
    }

    /** Nodes 1 and 4 are inner ones; 2, 3, 5 and 6 are leaves, of which 6 has no items. */
    private static Situation busy() {
        return new Situation(CHECK, "while much is under way", 3,
            "attach(0, false); attach(1, true); attach(0, true); attach(1, false); attach(4, true); attach(0, true)",
            "add(2, 5); add(2, 5); add(2, 9); add(2, 30); add(2, 7); add(2, 7)",
            "add(3, 1); add(3, 2); add(3, 3); add(3, 4); add(3, 31); add(3, 31); add(3, 31); add(5, 8); add(5, 8)",
            // On their way in the end: 2, 4 and 7; 3 was dropped, 9 arrived too late, the rest is kept.
            "report(2); deliver(1); report(2); report(3); drop(3); report(1); report(5); deliver(5); report(3); copy(6)",
            "deliver(6); report(1); deliver(8); copy(4); deliver(9)");
    }

    private static void onNewObject() {
        Situation fresh = new Situation(CHECK, "on a new object", 0);
        fresh.refuses("promise 2: -1 when parent is not the root or an inner node",
            "attach(1, true); attach(-1, false)", -1);
        fresh.refuses("promise 3: false when node is no leaf", "add(0, 5); add(1, 5)", 0);
        fresh.refuses("promise 4: -1 when node is no leaf", "flush(0); flush(1)", -1);
        fresh.refuses("promise 5: False when there is no such node", "crash(1); crash(-1)", 0);
        fresh.refuses("promise 6: -1 when there is no such node, it is the root", "report(0); report(1)", -1);
        fresh.refuses("promise 7: -1 when message is not on its way", "copy(0); copy(1)", -1);
        fresh.refuses("promise 8: False when it is not on its way", "drop(0); drop(1)", 0);
        fresh.refuses("promise 9: -1 when message is not on its way", "deliver(0); deliver(1)", -1);
        fresh.refuses("promises 13, 16 and 19: no items", "extreme(0, true); top(0, 0); quantile(0, 500)", -1);
    }

    private static void attachChangesNothing(Situation busy) {
        busy.refuses("promise 2: -1 when parent is not the root or an inner node (a leaf)",
            "attach(2, true); attach(2, false); attach(3, true); attach(6, false)", -1);
        busy.refuses("promise 2: -1 when parent is not the root or an inner node (no node yet)",
            "attach(7, true); attach(7, false); attach(11, true)", -1);
        busy.refuses("promise 2: -1 when parent is not the root or an inner node (never a node)",
            "attach(12, true); attach(-1, true); attach(-1, false); attach(MIN, true); attach(MAX, false)", -1);
    }

    private static void addChangesNothing(Situation busy) {
        busy.refuses("promise 3: false when node is no leaf (the root, an inner node)",
            "add(0, 5); add(1, 5); add(4, 5)", 0);
        busy.refuses("promise 3: false when node is no leaf (no node)",
            "add(7, 5); add(11, 5); add(12, 5); add(-1, 5); add(MIN, 5); add(MAX, 5)", 0);
        busy.refuses("promise 3: false when [..] value is not 0 .. 31 (too small)",
            "add(2, -1); add(3, -1); add(6, MIN)", 0);
        busy.refuses("promise 3: false when [..] value is not 0 .. 31 (too large)",
            "add(2, 32); add(3, 32); add(5, 64); add(6, MAX)", 0);
    }

    private static void flushAndCrashChangeNothing(Situation busy) {
        busy.refuses("promise 4: -1 when node is no leaf (the root, an inner node)",
            "flush(0); flush(1); flush(4)", -1);
        busy.refuses("promise 4: -1 when node is no leaf (no node)",
            "flush(7); flush(11); flush(12); flush(-1); flush(MIN); flush(MAX)", -1);
        busy.refuses("promise 5: False when there is no such node",
            "crash(7); crash(11); crash(12); crash(-1); crash(MIN); crash(MAX)", 0);
    }

    private static void reportChangesNothing(Situation busy) {
        busy.refuses("promise 6: -1 when there is no such node",
            "report(7); report(11); report(12); report(-1); report(MIN); report(MAX)", -1);
        busy.refuses("promise 6: -1 when [..] it is the root", "report(0)", -1);
    }

    private static void messagesChangeNothing(Situation busy) {
        for (String call : new String[] {"copy", "drop", "deliver"}) {
            String sentence = call + ", message is not on its way ";
            int due = call.equals("drop") ? 0 : -1;
            busy.refuses(sentence + "(dropped)", call + "(3)", due);
            busy.refuses(sentence + "(arrived and kept)", Sentences.each(call + "(#)", "1", "5", "6", "8"), due);
            busy.refuses(sentence + "(arrived and not kept)", call + "(9)", due);
            busy.refuses(sentence + "(not come to be)",
                Sentences.each(call + "(#)", "10", "11", "12", "13", "MAX"), due);
            busy.refuses(sentence + "(never a message)", Sentences.each(call + "(#)", "0", "-1", "-2", "MIN"), due);
        }
    }

    private static void questionsChangeNothing(Situation busy) {
        String[] questions = {"total(#)", "sum(#)", "extreme(#, true)", "extreme(#, false)", "covered(#, 2)",
            "estimate(#, 5)", "top(#, 0)", "digestSize(#)", "below(#, 5, true)", "below(#, 5, false)", "quantile(#, 500)"};
        for (String question : questions) {
            busy.refuses("-1 when there is no such node", Sentences.each(question, "7", "12", "-1", "MIN", "MAX"), -1);
        }
        busy.refuses("promise 13: -1 when it has no items", "extreme(6, true); extreme(6, false)", -1);
        busy.refuses("promise 14: -1 when [..] leaf is no leaf",
            "covered(2, 0); covered(2, 1); covered(2, 7); covered(0, -1)", -1);
        busy.refuses("promise 15: -1 when [..] value is not 0 .. 31",
            "estimate(2, -1); estimate(2, 32); estimate(0, MAX)", -1);
        busy.refuses("promise 16: -1 when there is no such counter",
            "top(6, 0); top(2, -1); top(2, 2); top(0, MAX)", -1);
        busy.refuses("promise 18: -1 when [..] value is not 0 .. 32", "below(2, -1, true); below(2, 33, false)", -1);
        busy.refuses("promise 19: -1 when [..] it has no items", "quantile(6, 500); quantile(4, 0)", -1);
        busy.refuses("promise 19: -1 when [..] p is not 0 .. 1000",
            "quantile(2, -1); quantile(2, 1001); quantile(0, MIN)", -1);
    }

    /** Not refused, but the promises of these calls tell of no change. */
    private static void answeredQuestionsChangeNothing(Situation busy) {
        busy.staysWith("promises 11 to 19 (of the root)", LaterCalls.questions("0"));
        busy.staysWith("promises 11 to 19 (of a leaf)", LaterCalls.questions("2"));
        busy.staysWith("promise 10", "onTheWay()");
    }

    private static void withTwelveNodes() {
        Situation full = new Situation(CHECK, "with 12 nodes", 2,
            "attach(0, false); attach(1, true); attach(0, true); attach(1, false); attach(4, false); attach(0, true)",
            "attach(0, true); attach(0, true); attach(0, true); attach(4, true); attach(1, true)",
            "add(2, 5); add(2, 6); add(2, 7); add(2, 8); add(11, 9); report(2); deliver(1); report(1); report(11)");
        full.refuses("promise 2: -1 when [..] 12 nodes are there",
            "attach(0, true); attach(0, false); attach(1, true); attach(5, false)", -1);
        full.refuses("promise 2: -1 when parent is not the root or an inner node",
            "attach(2, true); attach(11, false); attach(12, true)", -1);
        full.refuses("promise 3: false when node is no leaf", "add(12, 5); add(5, 5)", 0);
        full.refuses("promise 4: -1 when node is no leaf", "flush(12); flush(5)", -1);
        full.refuses("promise 5: False when there is no such node", "crash(12); crash(13)", 0);
        full.refuses("promise 6: -1 when there is no such node", "report(12); report(13)", -1);
    }

    private static void withTwelveMessages() {
        Situation full = new Situation(CHECK, "with 12 messages on their way", 12,
            "attach(0, true); attach(0, false); attach(2, true)",
            "add(1, 5); add(1, 6); add(1, 7); add(1, 8); add(3, 1); flush(3)",
            // 1 and 3 are kept, 2 is dropped, and 4 to 15 are on their way.
            "report(1); report(1); deliver(1); drop(2); report(3); deliver(3); report(2); add(1, 9); flush(1)",
            "report(1); report(2); copy(4); copy(5); report(3); copy(7); report(1); add(1, 3); flush(1)",
            "report(1); report(2); copy(12); report(3)");
        full.refuses("promise 6: -1 when [..] 12 messages are on their way", "report(1); report(2); report(3)", -1);
        full.refuses("promise 6: -1 when there is no such node, it is the root",
            "report(0); report(4); report(-1)", -1);
        full.refuses("promise 7: -1 when [..] 12 messages are", Sentences.count("copy(#)", 4, 15), -1);
        full.refuses("promise 7: -1 when message is not on its way", "copy(0); copy(1); copy(2); copy(16)", -1);
        full.refuses("promise 8: False when it is not on its way", "drop(0); drop(1); drop(2); drop(16)", 0);
        full.refuses("promise 9: -1 when message is not on its way",
            "deliver(0); deliver(1); deliver(2); deliver(16)", -1);
    }

    /** Leaf 1 has 48 items in its journal; leaf 2 has 45 there and 3 in its open block. */
    private static void withFullLeaves() {
        Situation full = new Situation(CHECK, "with full leaves", 0,
            "attach(0, true); attach(0, true); attach(0, true)",
            Sentences.times(12, "add(1, 5); add(1, 6); add(1, 5); add(1, 20)"), "add(2, 4); flush(2)",
            Sentences.times(11, "add(2, 8); add(2, 9); add(2, 9); add(2, 31)"), "add(2, 8); add(2, 9); add(2, 9)");
        full.refuses("promise 3: false when [..] have 48 items together (all in the journal)",
            "add(1, 5); add(1, 0); add(1, 31)", 0);
        full.refuses("promise 3: false when [..] have 48 items together (some in the open block)",
            "add(2, 8); add(2, 0); add(2, 31)", 0);
        full.refuses("promise 3: false when [..] value is not 0 .. 31", "add(1, 32); add(2, -1)", 0);
    }
}
