import java.util.ArrayList;
import java.util.List;

/**
 * "What it is": over a network that loses, doubles and reorders, a summary tells exact totals, how often
 * a value came at least, and where values lie, within known bounds. The items that a summary covers are
 * known here, so each answer is held against them and not against a second telling of the counters or of
 * the digest.
 */
public final class WhatItIsTest {
    private static final int RUNS = 3000;
    private static final int CALLS = 512;
    /** All questions to one node: 4 + 11 + 32 + 1 + 66 + 21. */
    private static final int QUESTIONS = 135;
    private static final int VALUES = 32;
    /** Ranges that hold a value and the next one too are at most one of each width above 1. */
    private static final int WIDTHS = 5;
    private static final Check CHECK = new Check();

    private final Draws draws;
    private final int k;
    private final int d;
    private final TelemetryTree tree;
    private final List<List<Integer>> journals = new ArrayList<>();
    private final List<List<Integer>> open = new ArrayList<>();
    private int lastMessage = 0;
    private int calls = 0;

    private WhatItIsTest(int seed) {
        draws = new Draws(seed);
        k = 1 + draws.upTo(6);
        d = 2 + draws.upTo(15);
        tree = new TelemetryTree(k, d);
        CHECK.at("what it is, seed " + seed + ", k " + k + ", d " + d);
    }

    public static void main(String[] args) {
        for (int seed = 1; seed <= RUNS && !CHECK.anyWrong(); seed++) {
            WhatItIsTest run = new WhatItIsTest(seed);
            run.makeNodes();
            run.countAndReport();
            run.holdAgainstItems(0);
            CHECK.due("the test's calls stay within " + CALLS, run.calls <= CALLS, true);
        }
        CHECK.end();
    }

    /** Nodes 1 and 2 are inner nodes, the others are leaves of the root and of these. */
    private void makeNodes() {
        for (int node = 0; node < 12; node++) {
            journals.add(new ArrayList<>());
            open.add(new ArrayList<>());
        }
        tree.attach(0, false);
        tree.attach(draws.upTo(2), false);
        int leaves = 1 + draws.upTo(9);
        for (int i = 0; i < leaves; i++) {
            tree.attach(draws.upTo(3), true);
        }
        calls += 2 + leaves;
    }

    private void countAndReport() {
        int spread = new int[] {2, 5, 11, VALUES}[draws.upTo(4)];
        while (calls < CALLS - QUESTIONS) {
            calls++;
            int node = draws.upTo(12);
            int message = lastMessage - draws.upTo(8);
            int kind = draws.upTo(100);
            if (kind < 60) {
                addOne(node, draws.upTo(spread) * 31 / (spread - 1));
            } else if (kind < 63) {
                flush(node);
            } else if (kind < 64) {
                crash(draws.upTo(4) == 0 ? 0 : node);
            } else if (kind < 80) {
                lastMessage = Math.max(lastMessage, tree.report(draws.upTo(3) == 0 ? 1 + draws.upTo(2) : node));
            } else if (kind < 82) {
                lastMessage = Math.max(lastMessage, tree.copy(message));
            } else if (kind < 84) {
                tree.drop(message);
            } else {
                tree.deliver(message);
            }
        }
    }

    private void addOne(int node, int value) {
        if (!tree.add(node, value)) {
            return;
        }
        open.get(node).add(value);
        if (open.get(node).size() == 4) {
            write(node);
        }
    }

    private void flush(int node) {
        tree.flush(node);
        write(node);
    }

    private void crash(int node) {
        tree.crash(node);
        open.get(node).clear();
    }

    private void write(int node) {
        journals.get(node).addAll(open.get(node));
        open.get(node).clear();
    }

    /** A journal only grows, so what is covered of it are its first items. */
    private List<Integer> coveredItems(int node) {
        List<Integer> items = new ArrayList<>();
        for (int leaf = 1; leaf < 12; leaf++) {
            int covered = tree.covered(node, leaf);
            calls++;
            CHECK.due("covered items of leaf " + leaf + " are in its journal", covered <= journals.get(leaf).size(), true);
            items.addAll(journals.get(leaf).subList(0, Math.max(0, Math.min(covered, journals.get(leaf).size()))));
        }
        return items;
    }

    private void holdAgainstItems(int node) {
        List<Integer> items = coveredItems(node);
        exactTotals(node, items);
        atLeast(node, items);
        whereValuesLie(node, items);
        quantiles(node, items);
    }

    private void exactTotals(int node, List<Integer> items) {
        long sum = 0;
        int least = items.isEmpty() ? -1 : VALUES;
        int greatest = -1;
        for (int item : items) {
            sum += item;
            least = Math.min(least, item);
            greatest = Math.max(greatest, item);
        }
        calls += 4;
        CHECK.due("exact total", tree.total(node), items.size());
        CHECK.due("exact sum", tree.sum(node), sum);
        CHECK.due("exact least", tree.extreme(node, false), least);
        CHECK.due("exact greatest", tree.extreme(node, true), greatest);
    }

    /** k counters miss a value at most n / (k + 1) times: each time, k other items are missed with it. */
    private void atLeast(int node, List<Integer> items) {
        for (int value = 0; value < VALUES; value++) {
            int came = between(items, value, value + 1);
            int told = tree.estimate(node, value);
            calls++;
            CHECK.due(value + " came at least " + told + " times, of " + came, 0 <= told && told <= came, true);
            CHECK.due(value + " is missed at most n / (k + 1) times", came - told <= items.size() / (k + 1), true);
        }
    }

    /** A range of more than one value has a count of at most n / d. */
    private void whereValuesLie(int node, List<Integer> items) {
        int threshold = items.size() / d;
        for (int value = 0; value <= VALUES; value++) {
            int less = between(items, 0, value);
            int least = tree.below(node, value, false);
            int most = tree.below(node, value, true);
            calls += 2;
            CHECK.due(less + " items below " + value + ", told " + least + " .. " + most, least <= less && less <= most, true);
            CHECK.due("the bounds below " + value + " are near", most - least <= WIDTHS * threshold, true);
        }
        calls++;
        int size = tree.digestSize(node);
        CHECK.due("digest of " + size + " ranges is small", (size - 1) * (threshold + 1) <= 4 * items.size(), true);
    }

    private void quantiles(int node, List<Integer> items) {
        int slack = 1000 * WIDTHS * (items.size() / d);
        for (int p = 0; p <= 1000; p += 50) {
            int value = tree.quantile(node, p);
            calls++;
            if (items.isEmpty()) {
                CHECK.due("quantile of none", value, -1);
                continue;
            }
            int needed = Math.max(1000, p * items.size());
            CHECK.due("enough items up to the quantile " + p, 1000 * between(items, 0, value + 1) >= needed, true);
            CHECK.due("not too many before the quantile " + p, 1000 * between(items, 0, value) < needed + slack, true);
        }
    }

    private static int between(List<Integer> items, int from, int to) {
        int count = 0;
        for (int item : items) {
            count += from <= item && item < to ? 1 : 0;
        }
        return count;
    }
}
