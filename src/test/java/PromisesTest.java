/** One part for each promise of the document; the due answers were worked out by hand from its words. */
public final class PromisesTest {
    private static final Check CHECK = new Check();
    private static final int[] NO_NODES = {-1, Integer.MIN_VALUE, 12, 13, Integer.MAX_VALUE};

    private PromisesTest() {}

    public static void main(String[] args) {
        newObject();
        counterLimit();
        digestDivisor();
        attach();
        attachLimit();
        add();
        addLimit();
        flush();
        crashOfLeaf();
        crashOfOtherNode();
        report();
        reportLimit();
        copy();
        drop();
        deliver();
        deliverSummaryAsItWas();
        onTheWay();
        totalSumExtreme();
        keptWithoutItems();
        covered();
        estimateByTaking();
        estimateByMerging();
        mergingGoesByChildNumber();
        top();
        digestSize();
        compress();
        compressFromTheSmallestRanges();
        compressInSeveralPasses();
        below();
        quantile();
        quantileIsNotRounded();
        refusedCallsChangeNothing();
        CHECK.end();
    }

    /** A tree with one leaf, number 1, under the root. */
    private static TelemetryTree oneLeaf(int k, int d) {
        TelemetryTree tree = new TelemetryTree(k, d);
        CHECK.due("attach(0, true)", tree.attach(0, true), 1);
        return tree;
    }

    private static void addAll(TelemetryTree tree, int leaf, int... values) {
        for (int value : values) {
            CHECK.due("add(" + leaf + ", " + value + ")", tree.add(leaf, value), true);
        }
    }

    private static void addAndFlush(TelemetryTree tree, int leaf, int... values) {
        addAll(tree, leaf, values);
        CHECK.due("flush(" + leaf + ")", tree.flush(leaf), values.length % 4);
    }

    private static void reportAndDeliver(TelemetryTree tree, int node) {
        CHECK.due("deliver(report(" + node + "))", tree.deliver(tree.report(node)), 1);
    }

    private static void newObject() {
        CHECK.at("promise 1, new object");
        TelemetryTree tree = new TelemetryTree(3, 3);
        CHECK.due("onTheWay()", tree.onTheWay(), 0);
        CHECK.due("total(0)", tree.total(0), 0);
        CHECK.due("sum(0)", tree.sum(0), 0);
        CHECK.due("total(1)", tree.total(1), -1);
        CHECK.due("digestSize(0)", tree.digestSize(0), 0);
        CHECK.due("add(0, 1)", tree.add(0, 1), false);
        CHECK.due("deliver(1)", tree.deliver(1), -1);
    }

    private static void counterLimit() {
        CHECK.at("promise 1, k");
        int[][] limits = {{Integer.MIN_VALUE, 1}, {-1, 1}, {0, 1}, {1, 1}, {2, 2}, {3, 3}, {4, 4}, {5, 5},
            {6, 6}, {7, 6}, {Integer.MAX_VALUE, 6}};
        for (int[] limit : limits) {
            TelemetryTree tree = oneLeaf(limit[0], 2);
            for (int v = 0; v < limit[1]; v++) {
                addAll(tree, 1, v);
            }
            tree.flush(1);
            CHECK.due("top of k " + limit[0], tree.top(1, limit[1] - 1), limit[1] - 1);
            addAll(tree, 1, 31);
            tree.flush(1);
            CHECK.due("top past k " + limit[0], tree.top(1, 0), -1);
        }
    }

    private static void digestDivisor() {
        CHECK.at("promise 1, d");
        int[][] divisors = {{Integer.MIN_VALUE, 2}, {0, 2}, {1, 2}, {2, 2}, {3, 3}, {7, 7}, {15, 15},
            {16, 16}, {17, 16}, {Integer.MAX_VALUE, 16}};
        for (int[] divisor : divisors) {
            TelemetryTree tree = oneLeaf(1, divisor[0]);
            // A single 1 can go up to its parent range as soon as n / d is 1.
            addAll(tree, 1, 1);
            for (int i = 1; i < divisor[1] - 1; i++) {
                addAll(tree, 1, 20);
            }
            tree.flush(1);
            CHECK.due("below, d " + divisor[0], tree.below(1, 1, true), 0);
            addAll(tree, 1, 20);
            tree.flush(1);
            CHECK.due("below, d " + divisor[0], tree.below(1, 1, true), 1);
        }
    }

    private static void attach() {
        CHECK.at("promise 2");
        TelemetryTree tree = new TelemetryTree(2, 2);
        CHECK.due("attach(1, true)", tree.attach(1, true), -1);
        CHECK.due("attach(0, true)", tree.attach(0, true), 1);
        CHECK.due("attach(0, false)", tree.attach(0, false), 2);
        CHECK.due("attach(1, true)", tree.attach(1, true), -1);
        CHECK.due("attach(1, false)", tree.attach(1, false), -1);
        CHECK.due("attach(3, true)", tree.attach(3, true), -1);
        CHECK.due("attach(2, false)", tree.attach(2, false), 3);
        CHECK.due("attach(3, true)", tree.attach(3, true), 4);
        for (int parent : NO_NODES) {
            CHECK.due("attach(" + parent + ", true)", tree.attach(parent, true), -1);
        }
        CHECK.due("add(1, 0)", tree.add(1, 0), true);
        CHECK.due("add(2, 0)", tree.add(2, 0), false);
        CHECK.due("add(3, 0)", tree.add(3, 0), false);
        CHECK.due("add(4, 0)", tree.add(4, 0), true);
        CHECK.due("total(5)", tree.total(5), -1);
        addAll(tree, 4, 7, 8, 9);
        reportAndDeliver(tree, 4);
        CHECK.due("total(3)", tree.total(3), 4);
        CHECK.due("total(2)", tree.total(2), 0);
        reportAndDeliver(tree, 3);
        CHECK.due("total(2)", tree.total(2), 4);
        CHECK.due("total(0)", tree.total(0), 0);
    }

    private static void attachLimit() {
        CHECK.at("promise 2, 12 nodes");
        TelemetryTree tree = new TelemetryTree(2, 2);
        for (int node = 1; node <= 11; node++) {
            CHECK.due("attach", tree.attach(node - 1, node == 11), node);
        }
        CHECK.due("attach(0, true)", tree.attach(0, true), -1);
        CHECK.due("attach(0, false)", tree.attach(0, false), -1);
        CHECK.due("total(11)", tree.total(11), 0);
        CHECK.due("total(12)", tree.total(12), -1);
    }

    private static void add() {
        CHECK.at("promise 3");
        TelemetryTree tree = oneLeaf(6, 16);
        CHECK.due("attach(0, false)", tree.attach(0, false), 2);
        for (int value : new int[] {-1, 32, Integer.MIN_VALUE, Integer.MAX_VALUE}) {
            CHECK.due("add(1, " + value + ")", tree.add(1, value), false);
        }
        for (int node : new int[] {0, 2, 3, -1, 12, Integer.MIN_VALUE, Integer.MAX_VALUE}) {
            CHECK.due("add(" + node + ", 1)", tree.add(node, 1), false);
        }
        addAll(tree, 1, 0, 31, 7);
        CHECK.due("total(1)", tree.total(1), 0);
        CHECK.due("sum(1)", tree.sum(1), 0);
        addAll(tree, 1, 7);
        CHECK.due("total(1)", tree.total(1), 4);
        CHECK.due("sum(1)", tree.sum(1), 45);
        addAll(tree, 1, 9, 9, 9);
        CHECK.due("total(1)", tree.total(1), 4);
        addAll(tree, 1, 9);
        CHECK.due("total(1)", tree.total(1), 8);
    }

    private static void addLimit() {
        CHECK.at("promise 3, 48 items");
        TelemetryTree tree = oneLeaf(6, 16);
        CHECK.due("attach(0, true)", tree.attach(0, true), 2);
        for (int i = 0; i < 48; i++) {
            addAll(tree, 1, i % 32);
        }
        CHECK.due("add(1, 0)", tree.add(1, 0), false);
        CHECK.due("total(1)", tree.total(1), 48);
        CHECK.due("crash(1)", tree.crash(1), true);
        CHECK.due("add(1, 0)", tree.add(1, 0), false);
        // Items of the open block count too, and are gone after a crash.
        addAndFlush(tree, 2, 5);
        for (int i = 0; i < 47; i++) {
            addAll(tree, 2, 5);
        }
        CHECK.due("total(2)", tree.total(2), 45);
        CHECK.due("add(2, 5)", tree.add(2, 5), false);
        CHECK.due("crash(2)", tree.crash(2), true);
        addAll(tree, 2, 6, 6, 6);
        CHECK.due("add(2, 6)", tree.add(2, 6), false);
        CHECK.due("flush(2)", tree.flush(2), 3);
        CHECK.due("total(2)", tree.total(2), 48);
        CHECK.due("sum(2)", tree.sum(2), 45 * 5 + 3 * 6);
        CHECK.due("add(2, 6)", tree.add(2, 6), false);
    }

    private static void flush() {
        CHECK.at("promise 4");
        TelemetryTree tree = oneLeaf(6, 16);
        CHECK.due("attach(0, false)", tree.attach(0, false), 2);
        CHECK.due("flush(1)", tree.flush(1), 0);
        for (int items = 1; items <= 3; items++) {
            for (int i = 0; i < items; i++) {
                addAll(tree, 1, items);
            }
            CHECK.due("flush(1)", tree.flush(1), items);
            CHECK.due("flush(1)", tree.flush(1), 0);
        }
        CHECK.due("total(1)", tree.total(1), 6);
        CHECK.due("sum(1)", tree.sum(1), 14);
        addAll(tree, 1, 4, 4, 4, 4);
        CHECK.due("flush(1)", tree.flush(1), 0);
        CHECK.due("flush(0)", tree.flush(0), -1);
        CHECK.due("flush(2)", tree.flush(2), -1);
        CHECK.due("flush(3)", tree.flush(3), -1);
        for (int node : NO_NODES) {
            CHECK.due("flush(" + node + ")", tree.flush(node), -1);
        }
    }

    private static void crashOfLeaf() {
        CHECK.at("promise 5, leaf");
        TelemetryTree tree = oneLeaf(6, 16);
        CHECK.due("attach(0, true)", tree.attach(0, true), 2);
        addAll(tree, 1, 1, 2, 3, 4, 5, 6);
        addAll(tree, 2, 9);
        CHECK.due("report(1)", tree.report(1), 1);
        CHECK.due("crash(1)", tree.crash(1), true);
        CHECK.due("total(1)", tree.total(1), 4);
        CHECK.due("flush(1)", tree.flush(1), 0);
        CHECK.due("flush(2)", tree.flush(2), 1);
        CHECK.due("onTheWay()", tree.onTheWay(), 1);
        addAndFlush(tree, 1, 7);
        CHECK.due("sum(1)", tree.sum(1), 17);
        // The number of reports stays: this one is newer than message 1.
        CHECK.due("report(1)", tree.report(1), 2);
        CHECK.due("deliver(2)", tree.deliver(2), 1);
        CHECK.due("deliver(1)", tree.deliver(1), 0);
        CHECK.due("total(0)", tree.total(0), 5);
        CHECK.due("crash(1)", tree.crash(1), true);
        CHECK.due("total(0)", tree.total(0), 5);
        CHECK.due("crash(3)", tree.crash(3), false);
        for (int node : NO_NODES) {
            CHECK.due("crash(" + node + ")", tree.crash(node), false);
        }
    }

    private static void crashOfOtherNode() {
        CHECK.at("promise 5, other node");
        TelemetryTree tree = new TelemetryTree(6, 16);
        CHECK.due("attach(0, false)", tree.attach(0, false), 1);
        CHECK.due("attach(1, true)", tree.attach(1, true), 2);
        CHECK.due("attach(1, true)", tree.attach(1, true), 3);
        CHECK.due("attach(0, true)", tree.attach(0, true), 4);
        for (int leaf = 2; leaf <= 4; leaf++) {
            addAll(tree, leaf, 1, 1, 1, 1, 1);
            reportAndDeliver(tree, leaf);
        }
        CHECK.due("total(1)", tree.total(1), 8);
        CHECK.due("report(1)", tree.report(1), 4);
        CHECK.due("crash(1)", tree.crash(1), true);
        CHECK.due("total(1)", tree.total(1), 0);
        CHECK.due("extreme(1, true)", tree.extreme(1, true), -1);
        CHECK.due("digestSize(1)", tree.digestSize(1), 0);
        CHECK.due("total(0)", tree.total(0), 4);
        CHECK.due("flush(2)", tree.flush(2), 1);
        // Reported empty, the fifth message is the newer one.
        CHECK.due("report(1)", tree.report(1), 5);
        CHECK.due("deliver(4)", tree.deliver(4), 1);
        CHECK.due("total(0)", tree.total(0), 12);
        CHECK.due("deliver(5)", tree.deliver(5), 1);
        CHECK.due("total(0)", tree.total(0), 4);
        CHECK.due("report(2)", tree.report(2), 6);
        CHECK.due("report(2)", tree.report(2), 7);
        CHECK.due("deliver(7)", tree.deliver(7), 1);
        CHECK.due("crash(1)", tree.crash(1), true);
        // Nothing is kept now, so the older message is kept again.
        CHECK.due("deliver(6)", tree.deliver(6), 1);
        CHECK.due("total(1)", tree.total(1), 5);
        CHECK.due("crash(0)", tree.crash(0), true);
        CHECK.due("total(0)", tree.total(0), 0);
        CHECK.due("total(1)", tree.total(1), 5);
    }

    private static void report() {
        CHECK.at("promise 6");
        TelemetryTree tree = oneLeaf(6, 16);
        CHECK.due("attach(0, false)", tree.attach(0, false), 2);
        CHECK.due("report(0)", tree.report(0), -1);
        CHECK.due("report(3)", tree.report(3), -1);
        for (int node : NO_NODES) {
            CHECK.due("report(" + node + ")", tree.report(node), -1);
        }
        CHECK.due("onTheWay()", tree.onTheWay(), 0);
        CHECK.due("report(1)", tree.report(1), 1);
        CHECK.due("report(2)", tree.report(2), 2);
        CHECK.due("report(1)", tree.report(1), 3);
        CHECK.due("drop(3)", tree.drop(3), true);
        CHECK.due("report(1)", tree.report(1), 4);
        CHECK.due("onTheWay()", tree.onTheWay(), 3);
        CHECK.due("total(0)", tree.total(0), 0);
    }

    private static void reportLimit() {
        CHECK.at("promise 6, 12 messages");
        TelemetryTree tree = oneLeaf(6, 16);
        for (int message = 1; message <= 12; message++) {
            CHECK.due("report(1)", tree.report(1), message);
        }
        CHECK.due("report(1)", tree.report(1), -1);
        CHECK.due("copy(12)", tree.copy(12), -1);
        CHECK.due("onTheWay()", tree.onTheWay(), 12);
        CHECK.due("deliver(5)", tree.deliver(5), 1);
        CHECK.due("report(1)", tree.report(1), 13);
        CHECK.due("report(1)", tree.report(1), -1);
        CHECK.due("drop(1)", tree.drop(1), true);
        CHECK.due("copy(13)", tree.copy(13), 14);
        CHECK.due("deliver(4)", tree.deliver(4), 0);
        CHECK.due("deliver(6)", tree.deliver(6), 1);
        CHECK.due("deliver(14)", tree.deliver(14), 1);
        CHECK.due("deliver(13)", tree.deliver(13), 0);
    }

    private static void copy() {
        CHECK.at("promise 7");
        TelemetryTree tree = oneLeaf(6, 16);
        CHECK.due("copy(0)", tree.copy(0), -1);
        CHECK.due("copy(1)", tree.copy(1), -1);
        addAll(tree, 1, 3, 3, 3, 3);
        CHECK.due("report(1)", tree.report(1), 1);
        addAll(tree, 1, 4, 4, 4, 4);
        CHECK.due("copy(1)", tree.copy(1), 2);
        CHECK.due("copy(2)", tree.copy(2), 3);
        CHECK.due("report(1)", tree.report(1), 4);
        for (int message : new int[] {0, 5, -1, Integer.MIN_VALUE, Integer.MAX_VALUE}) {
            CHECK.due("copy(" + message + ")", tree.copy(message), -1);
        }
        CHECK.due("drop(1)", tree.drop(1), true);
        CHECK.due("copy(1)", tree.copy(1), -1);
        CHECK.due("deliver(3)", tree.deliver(3), 1);
        CHECK.due("sum(0)", tree.sum(0), 12);
        CHECK.due("copy(3)", tree.copy(3), -1);
        CHECK.due("deliver(2)", tree.deliver(2), 0);
        CHECK.due("deliver(4)", tree.deliver(4), 1);
        CHECK.due("sum(0)", tree.sum(0), 28);
    }

    private static void drop() {
        CHECK.at("promise 8");
        TelemetryTree tree = oneLeaf(6, 16);
        addAll(tree, 1, 3, 3, 3, 3);
        for (int message : new int[] {0, 1, -1, Integer.MIN_VALUE, Integer.MAX_VALUE}) {
            CHECK.due("drop(" + message + ")", tree.drop(message), false);
        }
        CHECK.due("report(1)", tree.report(1), 1);
        CHECK.due("copy(1)", tree.copy(1), 2);
        CHECK.due("drop(1)", tree.drop(1), true);
        CHECK.due("drop(1)", tree.drop(1), false);
        CHECK.due("drop(0)", tree.drop(0), false);
        CHECK.due("onTheWay()", tree.onTheWay(), 1);
        CHECK.due("deliver(1)", tree.deliver(1), -1);
        CHECK.due("total(0)", tree.total(0), 0);
        CHECK.due("deliver(2)", tree.deliver(2), 1);
        CHECK.due("drop(2)", tree.drop(2), false);
        CHECK.due("total(0)", tree.total(0), 4);
    }

    private static void deliver() {
        CHECK.at("promise 9");
        TelemetryTree tree = oneLeaf(6, 16);
        for (int message : new int[] {0, 1, -1, Integer.MIN_VALUE, Integer.MAX_VALUE}) {
            CHECK.due("deliver(" + message + ")", tree.deliver(message), -1);
        }
        for (int message = 1; message <= 3; message++) {
            addAndFlush(tree, 1, message);
            CHECK.due("report(1)", tree.report(1), message);
        }
        CHECK.due("deliver(2)", tree.deliver(2), 1);
        CHECK.due("sum(0)", tree.sum(0), 3);
        CHECK.due("deliver(2)", tree.deliver(2), -1);
        CHECK.due("deliver(1)", tree.deliver(1), 0);
        CHECK.due("deliver(1)", tree.deliver(1), -1);
        CHECK.due("sum(0)", tree.sum(0), 3);
        CHECK.due("deliver(3)", tree.deliver(3), 1);
        CHECK.due("sum(0)", tree.sum(0), 6);
        CHECK.due("deliver(0)", tree.deliver(0), -1);
        CHECK.due("onTheWay()", tree.onTheWay(), 0);
    }

    private static void deliverSummaryAsItWas() {
        CHECK.at("promise 9, the summary as it was at the report");
        TelemetryTree tree = new TelemetryTree(2, 2);
        CHECK.due("attach(0, false)", tree.attach(0, false), 1);
        CHECK.due("attach(1, true)", tree.attach(1, true), 2);
        addAll(tree, 2, 8, 8, 9, 9);
        reportAndDeliver(tree, 2);
        CHECK.due("report(1)", tree.report(1), 2);
        addAll(tree, 2, 1, 1, 1, 31);
        reportAndDeliver(tree, 2);
        CHECK.due("deliver(2)", tree.deliver(2), 1);
        CHECK.due("total(1)", tree.total(1), 8);
        CHECK.due("total(0)", tree.total(0), 4);
        CHECK.due("sum(0)", tree.sum(0), 34);
        CHECK.due("extreme(0, false)", tree.extreme(0, false), 8);
        CHECK.due("extreme(0, true)", tree.extreme(0, true), 9);
        CHECK.due("covered(0, 2)", tree.covered(0, 2), 4);
        CHECK.due("estimate(0, 8)", tree.estimate(0, 8), 2);
        CHECK.due("estimate(0, 9)", tree.estimate(0, 9), 2);
        CHECK.due("digestSize(0)", tree.digestSize(0), 2);
    }

    private static void onTheWay() {
        CHECK.at("promise 10");
        TelemetryTree tree = oneLeaf(6, 16);
        CHECK.due("onTheWay()", tree.onTheWay(), 0);
        CHECK.due("report(1)", tree.report(1), 1);
        CHECK.due("onTheWay()", tree.onTheWay(), 1);
        CHECK.due("copy(1)", tree.copy(1), 2);
        CHECK.due("copy(1)", tree.copy(1), 3);
        CHECK.due("onTheWay()", tree.onTheWay(), 3);
        CHECK.due("crash(1)", tree.crash(1), true);
        CHECK.due("crash(0)", tree.crash(0), true);
        CHECK.due("onTheWay()", tree.onTheWay(), 3);
        CHECK.due("deliver(1)", tree.deliver(1), 1);
        CHECK.due("deliver(2)", tree.deliver(2), 0);
        CHECK.due("onTheWay()", tree.onTheWay(), 1);
        CHECK.due("drop(3)", tree.drop(3), true);
        CHECK.due("onTheWay()", tree.onTheWay(), 0);
    }

    private static void totalSumExtreme() {
        CHECK.at("promises 11, 12, 13");
        TelemetryTree tree = new TelemetryTree(1, 2);
        for (int leaf = 1; leaf <= 3; leaf++) {
            CHECK.due("attach(0, true)", tree.attach(0, true), leaf);
        }
        CHECK.due("extreme(1, true)", tree.extreme(1, true), -1);
        CHECK.due("extreme(1, false)", tree.extreme(1, false), -1);
        addAndFlush(tree, 1, 20);
        CHECK.due("extreme(1, false)", tree.extreme(1, false), 20);
        CHECK.due("extreme(1, true)", tree.extreme(1, true), 20);
        addAll(tree, 1, 25, 10, 31, 12);
        addAll(tree, 2, 0, 0, 0, 0, 5);
        for (int leaf = 1; leaf <= 3; leaf++) {
            reportAndDeliver(tree, leaf);
        }
        CHECK.due("total(1)", tree.total(1), 5);
        CHECK.due("sum(1)", tree.sum(1), 98);
        CHECK.due("extreme(1, false)", tree.extreme(1, false), 10);
        CHECK.due("extreme(1, true)", tree.extreme(1, true), 31);
        CHECK.due("total(2)", tree.total(2), 4);
        CHECK.due("sum(2)", tree.sum(2), 0);
        CHECK.due("extreme(2, true)", tree.extreme(2, true), 0);
        CHECK.due("total(0)", tree.total(0), 9);
        CHECK.due("sum(0)", tree.sum(0), 98);
        CHECK.due("extreme(0, false)", tree.extreme(0, false), 0);
        CHECK.due("extreme(0, true)", tree.extreme(0, true), 31);
        addAndFlush(tree, 3, 30);
        reportAndDeliver(tree, 3);
        CHECK.due("crash(0)", tree.crash(0), true);
        CHECK.due("extreme(0, false)", tree.extreme(0, false), -1);
        reportAndDeliver(tree, 3);
        CHECK.due("extreme(0, false)", tree.extreme(0, false), 30);
        CHECK.due("crash(0)", tree.crash(0), true);
        reportAndDeliver(tree, 2);
        CHECK.due("extreme(0, true)", tree.extreme(0, true), 0);
        for (int node : new int[] {4, -1, 12, Integer.MIN_VALUE, Integer.MAX_VALUE}) {
            CHECK.due("total(" + node + ")", tree.total(node), -1);
            CHECK.due("sum(" + node + ")", tree.sum(node), -1);
            CHECK.due("extreme(" + node + ", true)", tree.extreme(node, true), -1);
            CHECK.due("extreme(" + node + ", false)", tree.extreme(node, false), -1);
        }
    }

    private static void keptWithoutItems() {
        CHECK.at("terms, a kept summary without items");
        TelemetryTree tree = oneLeaf(1, 2);
        CHECK.due("attach(0, false)", tree.attach(0, false), 2);
        CHECK.due("attach(2, true)", tree.attach(2, true), 3);
        addAndFlush(tree, 1, 20);
        addAndFlush(tree, 3, 9);
        reportAndDeliver(tree, 1);
        reportAndDeliver(tree, 3);
        CHECK.due("crash(2)", tree.crash(2), true);
        reportAndDeliver(tree, 2);
        CHECK.due("total(0)", tree.total(0), 1);
        CHECK.due("extreme(0, false)", tree.extreme(0, false), 20);
        CHECK.due("extreme(0, true)", tree.extreme(0, true), 20);
        CHECK.due("crash(0)", tree.crash(0), true);
        reportAndDeliver(tree, 2);
        CHECK.due("extreme(0, true)", tree.extreme(0, true), -1);
        CHECK.due("quantile(0, 0)", tree.quantile(0, 0), -1);
    }

    private static void covered() {
        CHECK.at("promise 14");
        TelemetryTree tree = new TelemetryTree(2, 2);
        CHECK.due("attach(0, false)", tree.attach(0, false), 1);
        CHECK.due("attach(1, true)", tree.attach(1, true), 2);
        CHECK.due("attach(1, true)", tree.attach(1, true), 3);
        CHECK.due("attach(0, true)", tree.attach(0, true), 4);
        addAndFlush(tree, 2, 1, 2, 3);
        addAndFlush(tree, 3, 1);
        addAndFlush(tree, 4, 1, 2);
        for (int node : new int[] {2, 3, 4, 1}) {
            reportAndDeliver(tree, node);
        }
        int[][] due = {{3, 1, 2}, {3, 1, 0}, {3, 0, 0}, {0, 1, 0}, {0, 0, 2}};
        for (int node = 0; node <= 4; node++) {
            for (int leaf = 2; leaf <= 4; leaf++) {
                CHECK.due("covered(" + node + ", " + leaf + ")", tree.covered(node, leaf), due[node][leaf - 2]);
            }
            CHECK.due("covered(" + node + ", 0)", tree.covered(node, 0), -1);
            CHECK.due("covered(" + node + ", 1)", tree.covered(node, 1), -1);
            CHECK.due("covered(" + node + ", 5)", tree.covered(node, 5), -1);
        }
        for (int node : NO_NODES) {
            CHECK.due("covered(" + node + ", 2)", tree.covered(node, 2), -1);
            CHECK.due("covered(0, " + node + ")", tree.covered(0, node), -1);
        }
        CHECK.due("covered(5, 2)", tree.covered(5, 2), -1);
    }

    private static void estimateByTaking() {
        CHECK.at("promise 15, taking");
        TelemetryTree tree = oneLeaf(2, 2);
        addAndFlush(tree, 1, 5, 5, 5);
        addAndFlush(tree, 1, 0);
        CHECK.due("estimate(1, 5)", tree.estimate(1, 5), 3);
        CHECK.due("estimate(1, 0)", tree.estimate(1, 0), 1);
        // 31 takes 1 from both and gets no counter; the counter of 0 is gone, so 30 gets its place.
        addAndFlush(tree, 1, 31);
        CHECK.due("estimate(1, 5)", tree.estimate(1, 5), 2);
        CHECK.due("estimate(1, 0)", tree.estimate(1, 0), 0);
        CHECK.due("estimate(1, 31)", tree.estimate(1, 31), 0);
        addAndFlush(tree, 1, 30);
        CHECK.due("estimate(1, 30)", tree.estimate(1, 30), 1);
        CHECK.due("estimate(1, 5)", tree.estimate(1, 5), 2);
        CHECK.due("estimate(0, 5)", tree.estimate(0, 5), 0);
        for (int value : new int[] {-1, 32, Integer.MIN_VALUE, Integer.MAX_VALUE}) {
            CHECK.due("estimate(1, " + value + ")", tree.estimate(1, value), -1);
        }
        CHECK.due("estimate(2, 5)", tree.estimate(2, 5), -1);
        for (int node : NO_NODES) {
            CHECK.due("estimate(" + node + ", 5)", tree.estimate(node, 5), -1);
        }
    }

    private static void estimateByMerging() {
        CHECK.at("promise 15, merging");
        TelemetryTree tree = new TelemetryTree(2, 2);
        CHECK.due("attach(0, true)", tree.attach(0, true), 1);
        CHECK.due("attach(0, true)", tree.attach(0, true), 2);
        addAll(tree, 1, 1, 1, 1, 1, 1, 2, 2, 2);
        addAll(tree, 2, 3, 3, 4, 4);
        reportAndDeliver(tree, 1);
        CHECK.due("estimate(0, 1)", tree.estimate(0, 1), 5);
        CHECK.due("estimate(0, 2)", tree.estimate(0, 2), 3);
        reportAndDeliver(tree, 2);
        // Counts 5, 3, 2, 2: the third is 2, counted singly.
        CHECK.due("estimate(0, 1)", tree.estimate(0, 1), 3);
        CHECK.due("estimate(0, 2)", tree.estimate(0, 2), 1);
        CHECK.due("estimate(0, 3)", tree.estimate(0, 3), 0);
        CHECK.due("estimate(0, 4)", tree.estimate(0, 4), 0);

        TelemetryTree same = new TelemetryTree(2, 2);
        CHECK.due("attach(0, true)", same.attach(0, true), 1);
        CHECK.due("attach(0, true)", same.attach(0, true), 2);
        addAll(same, 1, 1, 1, 1, 2);
        addAll(same, 2, 2, 2, 1, 1);
        reportAndDeliver(same, 1);
        reportAndDeliver(same, 2);
        // Two values only: nothing is taken.
        CHECK.due("estimate(0, 1)", same.estimate(0, 1), 5);
        CHECK.due("estimate(0, 2)", same.estimate(0, 2), 3);
    }

    private static void mergingGoesByChildNumber() {
        CHECK.at("terms, the order of merging");
        TelemetryTree tree = new TelemetryTree(1, 2);
        for (int leaf = 1; leaf <= 3; leaf++) {
            CHECK.due("attach(0, true)", tree.attach(0, true), leaf);
        }
        addAndFlush(tree, 1, 1, 1);
        addAndFlush(tree, 2, 2, 2);
        addAndFlush(tree, 3, 3, 3);
        for (int leaf = 3; leaf >= 1; leaf--) {
            reportAndDeliver(tree, leaf);
        }
        // 1 and 2 undo each other, 3 is left; by the order of arrival 1 would be.
        CHECK.due("top(0, 0)", tree.top(0, 0), 3);
        CHECK.due("estimate(0, 3)", tree.estimate(0, 3), 2);
        CHECK.due("estimate(0, 1)", tree.estimate(0, 1), 0);
    }

    private static void top() {
        CHECK.at("promise 16");
        TelemetryTree tree = oneLeaf(6, 2);
        CHECK.due("top(1, 0)", tree.top(1, 0), -1);
        addAll(tree, 1, 9, 9, 3, 31, 31, 31, 0, 3);
        int[] due = {31, 3, 9, 0, -1, -1, -1};
        for (int i = 0; i < due.length; i++) {
            CHECK.due("top(1, " + i + ")", tree.top(1, i), due[i]);
        }
        for (int i : new int[] {-1, Integer.MIN_VALUE, Integer.MAX_VALUE, 31, 32}) {
            CHECK.due("top(1, " + i + ")", tree.top(1, i), -1);
        }
        CHECK.due("top(0, 0)", tree.top(0, 0), -1);
        CHECK.due("top(2, 0)", tree.top(2, 0), -1);
        for (int node : NO_NODES) {
            CHECK.due("top(" + node + ", 0)", tree.top(node, 0), -1);
        }
    }

    private static void digestSize() {
        CHECK.at("promise 17");
        TelemetryTree tree = oneLeaf(1, 4);
        CHECK.due("digestSize(1)", tree.digestSize(1), 0);
        addAndFlush(tree, 1, 0, 1, 2);
        CHECK.due("digestSize(1)", tree.digestSize(1), 3);
        // n = 4, t = 1: the 2 rises to range 2 and the 31 to range 3; 0 and 1 are 2 together and stay.
        addAndFlush(tree, 1, 31);
        CHECK.due("digestSize(1)", tree.digestSize(1), 4);
        CHECK.due("digestSize(0)", tree.digestSize(0), 0);
        reportAndDeliver(tree, 1);
        CHECK.due("digestSize(0)", tree.digestSize(0), 4);
        CHECK.due("digestSize(2)", tree.digestSize(2), -1);
        TelemetryTree ends = oneLeaf(1, 16);
        addAndFlush(ends, 1, 0, 31);
        CHECK.due("digestSize(1)", ends.digestSize(1), 2);
        for (int node : NO_NODES) {
            CHECK.due("digestSize(" + node + ")", tree.digestSize(node), -1);
        }
    }

    private static void compress() {
        CHECK.at("terms, compress");
        TelemetryTree tree = oneLeaf(1, 2);
        // n = 1, t = 0: nothing can rise.
        addAndFlush(tree, 1, 0);
        CHECK.due("below(1, 1, false)", tree.below(1, 1, false), 1);
        addAndFlush(tree, 1, 1);
        // n = 2, t = 1: 0 and 1 are 2 together, more than t, so both stay single.
        CHECK.due("digestSize(1)", tree.digestSize(1), 2);
        CHECK.due("below(1, 1, false)", tree.below(1, 1, false), 1);
        CHECK.due("below(1, 2, false)", tree.below(1, 2, false), 2);
        CHECK.due("below(1, 1, true)", tree.below(1, 1, true), 1);
        // n = 3, t = 1: the 31 rises alone up to range 1; 0 and 1 still stay.
        addAndFlush(tree, 1, 31);
        CHECK.due("digestSize(1)", tree.digestSize(1), 3);
        CHECK.due("below(1, 1, true)", tree.below(1, 1, true), 2);
        CHECK.due("below(1, 31, false)", tree.below(1, 31, false), 2);
        // n = 4, t = 2: 0 and 1 rise to range 2 and the new 31 to range 3, but range 1 would have 4.
        addAndFlush(tree, 1, 31);
        CHECK.due("digestSize(1)", tree.digestSize(1), 3);
        CHECK.due("below(1, 16, false)", tree.below(1, 16, false), 2);
        CHECK.due("below(1, 15, false)", tree.below(1, 15, false), 0);
        CHECK.due("below(1, 16, true)", tree.below(1, 16, true), 3);
        CHECK.due("below(1, 17, true)", tree.below(1, 17, true), 4);
        CHECK.due("below(1, 31, false)", tree.below(1, 31, false), 2);
    }

    private static void compressFromTheSmallestRanges() {
        CHECK.at("terms, the order of a pass");
        TelemetryTree tree = oneLeaf(1, 2);
        // n = 3, t = 1: range 2 has 1, range 3 has 1, and the second 0 rises to range 4 only.
        addAndFlush(tree, 1, 0, 31, 0);
        CHECK.due("digestSize(1)", tree.digestSize(1), 3);
        CHECK.due("below(1, 8, false)", tree.below(1, 8, false), 1);
        CHECK.due("below(1, 16, false)", tree.below(1, 16, false), 2);
        // n = 4, t = 2: range 3 gets the 30 and range 2 what range 4 had, before range 1 is asked.
        addAndFlush(tree, 1, 30);
        CHECK.due("digestSize(1)", tree.digestSize(1), 2);
        CHECK.due("below(1, 16, false)", tree.below(1, 16, false), 2);
        CHECK.due("below(1, 16, true)", tree.below(1, 16, true), 2);
        CHECK.due("below(1, 15, false)", tree.below(1, 15, false), 0);
        CHECK.due("below(1, 32, false)", tree.below(1, 32, false), 4);
    }

    private static void compressInSeveralPasses() {
        CHECK.at("terms, compress after merging");
        TelemetryTree tree = new TelemetryTree(1, 2);
        CHECK.due("attach(0, true)", tree.attach(0, true), 1);
        CHECK.due("attach(0, true)", tree.attach(0, true), 2);
        // Ranges 2 and 3 have 1 each, and range 32 has 2.
        addAndFlush(tree, 1, 0, 31);
        addAndFlush(tree, 2, 0, 0);
        reportAndDeliver(tree, 1);
        CHECK.due("below(0, 16, false)", tree.below(0, 16, false), 1);
        CHECK.due("below(0, 1, true)", tree.below(0, 1, true), 1);
        reportAndDeliver(tree, 2);
        // n = 4, t = 2: pass 1 lifts range 32 up to range 4 and ranges 2 and 3 to range 1; pass 2 lifts
        // range 4 to range 2, which stays there, since range 1 would have 4.
        CHECK.due("digestSize(0)", tree.digestSize(0), 2);
        CHECK.due("below(0, 8, false)", tree.below(0, 8, false), 0);
        CHECK.due("below(0, 16, false)", tree.below(0, 16, false), 2);
        CHECK.due("below(0, 31, false)", tree.below(0, 31, false), 2);
        CHECK.due("below(0, 32, false)", tree.below(0, 32, false), 4);
        CHECK.due("below(0, 1, true)", tree.below(0, 1, true), 4);
    }

    private static void below() {
        CHECK.at("promise 18");
        TelemetryTree tree = oneLeaf(6, 16);
        addAll(tree, 1, 0, 7, 8, 31);
        // No compressing yet (n / d is 0): each range is a single value, so both counts are the same.
        for (int value = 0; value <= 32; value++) {
            int less = value > 31 ? 4 : value > 8 ? 3 : value > 7 ? 2 : value > 0 ? 1 : 0;
            CHECK.due("below(1, " + value + ", false)", tree.below(1, value, false), less);
            CHECK.due("below(1, " + value + ", true)", tree.below(1, value, true), less);
            CHECK.due("below(0, " + value + ", true)", tree.below(0, value, true), 0);
        }
        for (int value : new int[] {-1, 33, Integer.MIN_VALUE, Integer.MAX_VALUE}) {
            CHECK.due("below(1, " + value + ", false)", tree.below(1, value, false), -1);
            CHECK.due("below(1, " + value + ", true)", tree.below(1, value, true), -1);
        }
        for (int node : new int[] {2, -1, 12, Integer.MIN_VALUE, Integer.MAX_VALUE}) {
            CHECK.due("below(" + node + ", 1, false)", tree.below(node, 1, false), -1);
            CHECK.due("below(" + node + ", 1, true)", tree.below(node, 1, true), -1);
        }
        belowWithRangeOne();
    }

    private static void belowWithRangeOne() {
        TelemetryTree tree = oneLeaf(6, 2);
        addAndFlush(tree, 1, 9, 9);
        addAndFlush(tree, 1, 20);
        // t = 1: the two 9 stay single, the 20 is in range 1.
        CHECK.due("below(1, 0, true)", tree.below(1, 0, true), 0);
        CHECK.due("below(1, 1, true)", tree.below(1, 1, true), 1);
        CHECK.due("below(1, 9, true)", tree.below(1, 9, true), 1);
        CHECK.due("below(1, 10, true)", tree.below(1, 10, true), 3);
        CHECK.due("below(1, 9, false)", tree.below(1, 9, false), 0);
        CHECK.due("below(1, 10, false)", tree.below(1, 10, false), 2);
        CHECK.due("below(1, 31, false)", tree.below(1, 31, false), 2);
        CHECK.due("below(1, 32, false)", tree.below(1, 32, false), 3);
    }

    private static void quantile() {
        CHECK.at("promise 19");
        TelemetryTree tree = oneLeaf(6, 16);
        CHECK.due("quantile(1, 500)", tree.quantile(1, 500), -1);
        CHECK.due("quantile(1, 0)", tree.quantile(1, 0), -1);
        addAll(tree, 1, 4, 31, 8, 6);
        int[][] due = {{0, 4}, {1, 4}, {250, 4}, {251, 6}, {500, 6}, {501, 8}, {750, 8}, {751, 31}, {1000, 31}};
        for (int[] row : due) {
            CHECK.due("quantile(1, " + row[0] + ")", tree.quantile(1, row[0]), row[1]);
        }
        for (int p : new int[] {-1, 1001, Integer.MIN_VALUE, Integer.MAX_VALUE}) {
            CHECK.due("quantile(1, " + p + ")", tree.quantile(1, p), -1);
        }
        for (int node : new int[] {0, 2, -1, 12, Integer.MIN_VALUE, Integer.MAX_VALUE}) {
            CHECK.due("quantile(" + node + ", 500)", tree.quantile(node, 500), -1);
        }
        TelemetryTree wide = oneLeaf(6, 2);
        addAndFlush(wide, 1, 9, 9);
        addAndFlush(wide, 1, 3);
        // The 3 is in range 1, which is gone through last.
        CHECK.due("quantile(1, 0)", wide.quantile(1, 0), 9);
        CHECK.due("quantile(1, 666)", wide.quantile(1, 666), 9);
        CHECK.due("quantile(1, 667)", wide.quantile(1, 667), 31);
    }

    private static void quantileIsNotRounded() {
        CHECK.at("promise 19, not rounded");
        TelemetryTree tree = oneLeaf(6, 16);
        addAndFlush(tree, 1, 1, 2, 3);
        // 333 * 3 / 1000 is 0.999, 334 * 3 / 1000 is 1.002.
        CHECK.due("quantile(1, 333)", tree.quantile(1, 333), 1);
        CHECK.due("quantile(1, 334)", tree.quantile(1, 334), 2);
        CHECK.due("quantile(1, 666)", tree.quantile(1, 666), 2);
        CHECK.due("quantile(1, 667)", tree.quantile(1, 667), 3);
        CHECK.due("quantile(1, 1000)", tree.quantile(1, 1000), 3);
    }

    private static void refusedCallsChangeNothing() {
        CHECK.at("a call that is refused changes nothing");
        TelemetryTree tree = oneLeaf(2, 2);
        addAll(tree, 1, 1, 2, 3, 4, 5);
        CHECK.due("report(1)", tree.report(1), 1);
        tree.attach(1, true);
        tree.add(1, 32);
        tree.add(0, 1);
        tree.flush(0);
        tree.crash(2);
        tree.report(0);
        tree.report(2);
        tree.copy(2);
        tree.drop(2);
        tree.deliver(2);
        CHECK.due("onTheWay()", tree.onTheWay(), 1);
        CHECK.due("attach(0, true)", tree.attach(0, true), 2);
        CHECK.due("flush(1)", tree.flush(1), 1);
        CHECK.due("flush(2)", tree.flush(2), 0);
        CHECK.due("report(2)", tree.report(2), 2);
        for (int message = 3; message <= 12; message++) {
            CHECK.due("report(1)", tree.report(1), message);
        }
        // Refused reports and copies use up neither a number nor a version.
        CHECK.due("report(1)", tree.report(1), -1);
        CHECK.due("copy(1)", tree.copy(1), -1);
        CHECK.due("drop(2)", tree.drop(2), true);
        CHECK.due("report(1)", tree.report(1), 13);
        CHECK.due("deliver(12)", tree.deliver(12), 1);
        CHECK.due("total(0)", tree.total(0), 5);
        CHECK.due("deliver(13)", tree.deliver(13), 1);
    }
}
