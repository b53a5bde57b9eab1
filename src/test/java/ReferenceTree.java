import java.util.ArrayList;
import java.util.Comparator;
import java.util.List;
import java.util.Map;
import java.util.TreeMap;

/**
 * The document told a second time, with the whole Java library and no care for room or speed: journals
 * and kept messages are held as they are, and every answer is worked out anew from them.
 */
final class ReferenceTree {
    private final int k;
    private final int d;
    private final List<Node> nodes = new ArrayList<>();
    private final TreeMap<Integer, Message> messages = new TreeMap<>();
    private int lastMessage = 0;

    private static final class Node {
        int parent = -1;
        boolean leaf;
        int reports = 0;
        List<Integer> journal = new ArrayList<>();
        List<Integer> open = new ArrayList<>();
        TreeMap<Integer, Message> keeps = new TreeMap<>();
    }

    private record Message(int node, int version, Sum summary) {}

    private static final class Sum {
        int n = 0;
        long sum = 0;
        int least = Integer.MAX_VALUE;
        int greatest = Integer.MIN_VALUE;
        TreeMap<Integer, Integer> leaves = new TreeMap<>();
        TreeMap<Integer, Integer> counters = new TreeMap<>();
        int[] digest = new int[64];
    }

    ReferenceTree(int k, int d) {
        this.k = k < 1 ? 1 : k > 6 ? 6 : k;
        this.d = d < 2 ? 2 : d > 16 ? 16 : d;
        nodes.add(new Node());
    }

    int attach(int parent, boolean leaf) {
        if (!there(parent) || nodes.get(parent).leaf || nodes.size() == 12) return -1;
        Node made = new Node();
        made.parent = parent;
        made.leaf = leaf;
        nodes.add(made);
        return nodes.size() - 1;
    }

    boolean add(int node, int value) {
        if (!leafThere(node) || value < 0 || value > 31) return false;
        Node leaf = nodes.get(node);
        if (leaf.journal.size() + leaf.open.size() == 48) return false;
        leaf.open.add(value);
        if (leaf.open.size() == 4) flush(node);
        return true;
    }

    int flush(int node) {
        if (!leafThere(node)) return -1;
        Node leaf = nodes.get(node);
        int had = leaf.open.size();
        leaf.journal.addAll(leaf.open);
        leaf.open.clear();
        return had;
    }

    boolean crash(int node) {
        if (!there(node)) return false;
        nodes.get(node).open.clear();
        nodes.get(node).keeps.clear();
        return true;
    }

    int report(int node) {
        if (!there(node) || node == 0 || messages.size() == 12) return -1;
        nodes.get(node).reports++;
        messages.put(++lastMessage, new Message(node, nodes.get(node).reports, summaryOf(node)));
        return lastMessage;
    }

    int copy(int message) {
        if (!messages.containsKey(message) || messages.size() == 12) return -1;
        messages.put(++lastMessage, messages.get(message));
        return lastMessage;
    }

    boolean drop(int message) {
        return messages.remove(message) != null;
    }

    int deliver(int message) {
        Message arrived = messages.remove(message);
        if (arrived == null) return -1;
        Map<Integer, Message> keeps = nodes.get(nodes.get(arrived.node).parent).keeps;
        Message before = keeps.get(arrived.node);
        if (before != null && before.version >= arrived.version) return 0;
        keeps.put(arrived.node, arrived);
        return 1;
    }

    int onTheWay() {
        return messages.size();
    }

    int total(int node) {
        return there(node) ? summaryOf(node).n : -1;
    }

    long sum(int node) {
        return there(node) ? summaryOf(node).sum : -1;
    }

    int extreme(int node, boolean greatest) {
        if (!there(node) || summaryOf(node).n == 0) return -1;
        return greatest ? summaryOf(node).greatest : summaryOf(node).least;
    }

    int covered(int node, int leaf) {
        return there(node) && leafThere(leaf) ? summaryOf(node).leaves.getOrDefault(leaf, 0) : -1;
    }

    int estimate(int node, int value) {
        if (!there(node) || value < 0 || value > 31) return -1;
        return summaryOf(node).counters.getOrDefault(value, 0);
    }

    int top(int node, int i) {
        if (!there(node)) return -1;
        List<Map.Entry<Integer, Integer>> order = new ArrayList<>(summaryOf(node).counters.entrySet());
        order.sort(Comparator.<Map.Entry<Integer, Integer>>comparingInt(e -> -e.getValue())
            .thenComparingInt(Map.Entry::getKey));
        return i >= 0 && i < order.size() ? order.get(i).getKey() : -1;
    }

    int digestSize(int node) {
        if (!there(node)) return -1;
        int size = 0;
        for (int count : summaryOf(node).digest) size += count > 0 ? 1 : 0;
        return size;
    }

    int below(int node, int value, boolean some) {
        if (!there(node) || value < 0 || value > 32) return -1;
        Sum summary = summaryOf(node);
        int result = 0;
        for (int r = 1; r <= 63; r++) {
            int less = 0;
            for (int v = low(r); v <= high(r); v++) less += v < value ? 1 : 0;
            boolean counts = some ? less > 0 : less == high(r) - low(r) + 1;
            if (counts) result += summary.digest[r];
        }
        return result;
    }

    int quantile(int node, int p) {
        if (!there(node) || p < 0 || p > 1000) return -1;
        Sum summary = summaryOf(node);
        if (summary.n == 0) return -1;
        List<Integer> ranges = new ArrayList<>();
        for (int r = 1; r <= 63; r++) ranges.add(r);
        ranges.sort(Comparator.<Integer>comparingInt(r -> high(r)).thenComparingInt(r -> high(r) - low(r)));
        long through = 0;
        for (int r : ranges) {
            through += summary.digest[r];
            if (through >= 1 && through * 1000L >= (long) p * summary.n) return high(r);
        }
        throw new IllegalStateException("the counts of the digest do not come to n");
    }

    /** The halving of the document, from range 1 down to r along the bits of r below its first. */
    private static int[] bounds(int r) {
        int low = 0;
        int high = 31;
        String way = Integer.toBinaryString(r).substring(1);
        for (char half : way.toCharArray()) {
            int middle = (low + high) / 2;
            if (half == '0') high = middle;
            else low = middle + 1;
        }
        return new int[] {low, high};
    }

    private static int low(int r) {
        return bounds(r)[0];
    }

    private static int high(int r) {
        return bounds(r)[1];
    }

    private boolean there(int node) {
        return 0 <= node && node < nodes.size();
    }

    private boolean leafThere(int node) {
        return there(node) && nodes.get(node).leaf;
    }

    private Sum summaryOf(int number) {
        Node node = nodes.get(number);
        Sum result = new Sum();
        for (int item : node.journal) take(result, item, number);
        for (Message kept : node.keeps.values()) if (kept.summary.n > 0) merge(result, kept.summary);
        return result;
    }

    private void take(Sum a, int v, int leaf) {
        a.n++;
        a.sum += v;
        a.least = Math.min(a.least, v);
        a.greatest = Math.max(a.greatest, v);
        a.leaves.merge(leaf, 1, Integer::sum);
        if (a.counters.containsKey(v)) {
            a.counters.put(v, a.counters.get(v) + 1);
        } else if (a.counters.size() < k) {
            a.counters.put(v, 1);
        } else {
            lower(a.counters, 1);
        }
        a.digest[32 + v]++;
        compress(a);
    }

    private void merge(Sum a, Sum b) {
        a.n += b.n;
        a.sum += b.sum;
        a.least = Math.min(a.least, b.least);
        a.greatest = Math.max(a.greatest, b.greatest);
        b.leaves.forEach((leaf, items) -> a.leaves.merge(leaf, items, Integer::sum));
        b.counters.forEach((value, count) -> a.counters.merge(value, count, Integer::sum));
        if (a.counters.size() > k) {
            List<Integer> counts = new ArrayList<>(a.counters.values());
            counts.sort(Comparator.reverseOrder());
            lower(a.counters, counts.get(k));
        }
        for (int r = 1; r <= 63; r++) a.digest[r] += b.digest[r];
        compress(a);
    }

    private static void lower(Map<Integer, Integer> counters, int by) {
        counters.replaceAll((value, count) -> count - by);
        counters.values().removeIf(count -> count <= 0);
    }

    private void compress(Sum a) {
        int t = a.n / d;
        int[] before;
        do {
            before = a.digest.clone();
            for (int r = 31; r >= 1; r--) {
                int together = a.digest[r] + a.digest[2 * r] + a.digest[2 * r + 1];
                if (together <= t) {
                    a.digest[r] = together;
                    a.digest[2 * r] = 0;
                    a.digest[2 * r + 1] = 0;
                }
            }
        } while (!java.util.Arrays.equals(before, a.digest));
    }
}
