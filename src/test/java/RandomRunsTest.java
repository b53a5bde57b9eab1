/** Runs of 512 calls, drawn from fixed seeds, each answer compared with that of ReferenceTree. */
public final class RandomRunsTest {
    private static final int RUNS = 1500;
    private static final int CALLS = 512;
    private static final Check CHECK = new Check();

    private final Draws draws;
    private final TelemetryTree tree;
    private final ReferenceTree model;
    private final int spread;
    private final int leafWish;
    private int nodes = 1;
    private int lastMessage = 0;

    private RandomRunsTest(int seed) {
        draws = new Draws(seed);
        int k = draws.upTo(10) - 1;
        int d = draws.upTo(20) - 1;
        tree = new TelemetryTree(k, d);
        model = new ReferenceTree(k, d);
        // Few values make counts that are high and equal; all values make wide digests.
        spread = new int[] {3, 6, 12, 32}[draws.upTo(4)];
        leafWish = 2 + draws.upTo(3);
        CHECK.at("seed " + seed + ", k " + k + ", d " + d);
    }

    public static void main(String[] args) {
        for (int seed = 1; seed <= RUNS && !CHECK.anyWrong(); seed++) {
            RandomRunsTest run = new RandomRunsTest(seed);
            for (int call = 0; call < CALLS && !CHECK.anyWrong(); call++) {
                run.oneCall();
            }
        }
        CHECK.end();
    }

    private int node() {
        return draws.upTo(20) == 0 ? draws.upTo(18) - 3 : draws.upTo(nodes);
    }

    private int value() {
        if (draws.upTo(40) == 0) return draws.upTo(40) - 4;
        int step = 31 / (spread - 1);
        return draws.upTo(spread) * step;
    }

    private int message() {
        return draws.upTo(20) == 0 ? draws.upTo(lastMessage + 4) - 1 : lastMessage - draws.upTo(10);
    }

    private void oneCall() {
        int kind = draws.upTo(100);
        if (kind < 5) {
            attachOne();
        } else if (kind < 50) {
            addOne();
        } else if (kind < 76) {
            network(kind);
        } else {
            question(draws.upTo(9));
        }
    }

    private void attachOne() {
        int parent = node();
        boolean leaf = draws.upTo(leafWish) > 0;
        int made = model.attach(parent, leaf);
        CHECK.due("attach(" + parent + ", " + leaf + ")", tree.attach(parent, leaf), made);
        nodes = Math.max(nodes, made + 1);
    }

    private void addOne() {
        int node = node();
        int value = value();
        CHECK.due("add(" + node + ", " + value + ")", tree.add(node, value), model.add(node, value));
    }

    private void network(int kind) {
        int node = node();
        int message = message();
        if (kind < 54) {
            CHECK.due("flush(" + node + ")", tree.flush(node), model.flush(node));
        } else if (kind < 55) {
            CHECK.due("crash(" + node + ")", tree.crash(node), model.crash(node));
        } else if (kind < 65) {
            int sent = model.report(node);
            CHECK.due("report(" + node + ")", tree.report(node), sent);
            lastMessage = Math.max(lastMessage, sent);
        } else if (kind < 67) {
            int sent = model.copy(message);
            CHECK.due("copy(" + message + ")", tree.copy(message), sent);
            lastMessage = Math.max(lastMessage, sent);
        } else if (kind < 68) {
            CHECK.due("drop(" + message + ")", tree.drop(message), model.drop(message));
        } else {
            CHECK.due("deliver(" + message + ")", tree.deliver(message), model.deliver(message));
        }
    }

    private void question(int kind) {
        int node = draws.upTo(3) == 0 ? 0 : node();
        boolean flag = draws.upTo(2) == 0;
        switch (kind) {
            case 0 -> CHECK.due("onTheWay()", tree.onTheWay(), model.onTheWay());
            case 1 -> {
                CHECK.due("total(" + node + ")", tree.total(node), model.total(node));
                CHECK.due("sum(" + node + ")", tree.sum(node), model.sum(node));
            }
            case 2 -> CHECK.due("extreme(" + node + ", " + flag + ")", tree.extreme(node, flag), model.extreme(node, flag));
            case 3 -> {
                int leaf = node();
                CHECK.due("covered(" + node + ", " + leaf + ")", tree.covered(node, leaf), model.covered(node, leaf));
            }
            case 4 -> {
                int value = value();
                CHECK.due("estimate(" + node + ", " + value + ")", tree.estimate(node, value), model.estimate(node, value));
            }
            case 5 -> {
                int i = draws.upTo(8) - 1;
                CHECK.due("top(" + node + ", " + i + ")", tree.top(node, i), model.top(node, i));
            }
            case 6 -> CHECK.due("digestSize(" + node + ")", tree.digestSize(node), model.digestSize(node));
            case 7 -> {
                int value = draws.upTo(36) - 1;
                CHECK.due("below(" + node + ", " + value + ", " + flag + ")",
                    tree.below(node, value, flag), model.below(node, value, flag));
            }
            default -> {
                int p = draws.upTo(10) == 0 ? draws.upTo(3) * 1000 - 1 + draws.upTo(3) : draws.upTo(1001);
                CHECK.due("quantile(" + node + ", " + p + ")", tree.quantile(node, p), model.quantile(node, p));
            }
        }
    }
}
