/**
 * A tree of nodes that report summaries of what their leaves counted over a network that loses,
 * doubles and reorders messages.
 *
 * Every object and row is made by a constructor and used again, so that no later call needs room.
 */
public final class TelemetryTree {
    private static final int MOST_NODES = 12;
    private static final int MOST_MESSAGES = 12;
    private static final int VALUES = 32;
    private static final int BLOCK_ITEMS = 4;
    private static final int LEAF_ITEMS = 48;
    private static final int NO_PARENT = -1;
    /** Far above need: a pass that changes a count lifts an item, and 528 items rise 5 levels at most. */
    private static final int MOST_PASSES = 4096;

    private final Node[] nodes = new Node[MOST_NODES];
    private int nodeCount = 1;
    private final Message[] slots = new Message[MOST_MESSAGES];
    private int lastMessage = 0;

    public TelemetryTree(int k, int d) {
        int counterLimit = Math.max(1, Math.min(6, k));
        int divisor = Math.max(2, Math.min(16, d));
        for (int i = 0; i < MOST_NODES; i++) {
            nodes[i] = new Node(i, counterLimit, divisor);
        }
        for (int i = 0; i < MOST_MESSAGES; i++) {
            slots[i] = new Message(counterLimit, divisor);
        }
    }

    public int attach(int parent, boolean leaf) {
        if (!isNode(parent) || nodes[parent].leaf || nodeCount >= MOST_NODES) {
            return -1;
        }
        int number = nodeCount;
        nodes[number].parent = parent;
        nodes[number].leaf = leaf;
        nodeCount++;
        return number;
    }

    public boolean add(int node, int value) {
        if (!isLeaf(node) || !isValue(value) || nodes[node].itemCount() >= LEAF_ITEMS) {
            return false;
        }
        nodes[node].putIntoOpenBlock(value);
        return true;
    }

    public int flush(int node) {
        return isLeaf(node) ? nodes[node].writeOpenBlock() : -1;
    }

    public boolean crash(int node) {
        if (!isNode(node)) {
            return false;
        }
        if (nodes[node].leaf) {
            nodes[node].openCount = 0;
        } else {
            forgetChildren(node);
            mergeKept(node);
        }
        return true;
    }

    public int report(int node) {
        int slot = freeSlot();
        if (!isNode(node) || nodes[node].parent == NO_PARENT || slot < 0) {
            return -1;
        }
        nodes[node].reports++;
        lastMessage++;
        slots[slot].send(lastMessage, node, nodes[node].reports, nodes[node].summary);
        return lastMessage;
    }

    public int copy(int message) {
        int original = slotOf(message);
        int slot = freeSlot();
        if (original < 0 || slot < 0) {
            return -1;
        }
        Message first = slots[original];
        lastMessage++;
        slots[slot].send(lastMessage, first.sender, first.version, first.summary);
        return lastMessage;
    }

    public boolean drop(int message) {
        int slot = slotOf(message);
        if (slot < 0) {
            return false;
        }
        slots[slot].number = 0;
        return true;
    }

    public int deliver(int message) {
        int slot = slotOf(message);
        if (slot < 0) {
            return -1;
        }
        Message arrived = slots[slot];
        arrived.number = 0;
        Node sender = nodes[arrived.sender];
        if (sender.keptVersion >= arrived.version) {
            return 0;
        }
        sender.keptVersion = arrived.version;
        sender.kept.setTo(arrived.summary);
        mergeKept(sender.parent);
        return 1;
    }

    public int onTheWay() {
        int count = 0;
        for (int i = 0; i < MOST_MESSAGES; i++) {
            if (slots[i].number != 0) {
                count++;
            }
        }
        return count;
    }

    public int total(int node) {
        return isNode(node) ? nodes[node].summary.n : -1;
    }

    public long sum(int node) {
        return isNode(node) ? nodes[node].summary.itemSum : -1L;
    }

    public int extreme(int node, boolean greatest) {
        if (!isNode(node) || nodes[node].summary.n == 0) {
            return -1;
        }
        return greatest ? nodes[node].summary.greatest : nodes[node].summary.least;
    }

    public int covered(int node, int leaf) {
        return isNode(node) && isLeaf(leaf) ? nodes[node].summary.fromLeaf[leaf] : -1;
    }

    public int estimate(int node, int value) {
        return isNode(node) && isValue(value) ? nodes[node].summary.counters.counts[value] : -1;
    }

    public int top(int node, int i) {
        return isNode(node) ? nodes[node].summary.counters.valueAtRank(i) : -1;
    }

    public int digestSize(int node) {
        return isNode(node) ? nodes[node].summary.digest.rangesInUse() : -1;
    }

    public int below(int node, int value, boolean some) {
        if (!isNode(node) || value < 0 || value > VALUES) {
            return -1;
        }
        Digest digest = nodes[node].summary.digest;
        return some ? digest.startingBefore(value) : digest.endingBefore(value);
    }

    public int quantile(int node, int p) {
        if (!isNode(node) || p < 0 || p > 1000) {
            return -1;
        }
        Summary summary = nodes[node].summary;
        return summary.digest.valueReaching(p * summary.n);
    }

    private boolean isNode(int node) {
        return node >= 0 && node < nodeCount;
    }

    private boolean isLeaf(int node) {
        return isNode(node) && nodes[node].leaf;
    }

    private static boolean isValue(int value) {
        return value >= 0 && value < VALUES;
    }

    private int slotOf(int message) {
        // A free slot has the number 0, which must not be found as a message.
        return message < 1 ? -1 : slotWithNumber(message);
    }

    private int freeSlot() {
        return slotWithNumber(0);
    }

    private int slotWithNumber(int number) {
        for (int i = 0; i < MOST_MESSAGES; i++) {
            if (slots[i].number == number) {
                return i;
            }
        }
        return -1;
    }

    private void forgetChildren(int parent) {
        for (int child = 1; child < nodeCount; child++) {
            if (nodes[child].parent == parent) {
                nodes[child].keptVersion = 0;
            }
        }
    }

    private void mergeKept(int parent) {
        Summary merged = nodes[parent].summary;
        merged.makeEmpty();
        for (int child = 1; child < nodeCount; child++) {
            Node from = nodes[child];
            if (from.parent == parent && from.keptVersion > 0 && from.kept.n > 0) {
                merged.merge(from.kept);
            }
        }
    }

    /**
     * A node, and what its parent keeps for it: a node has one parent, so that stands here and no
     * parent needs a row of summaries.
     *
     * A journal only grows, and its items are taken in its order, so a leaf's summary takes them as
     * they are written and the items need not be held.
     */
    private static final class Node {
        final int number;
        int parent = NO_PARENT;
        boolean leaf = false;
        final int[] open = new int[BLOCK_ITEMS];
        int openCount = 0;
        int reports = 0;
        final Summary summary;
        /** What the parent keeps for this node; the version is 0 when it keeps nothing. */
        final Summary kept;
        int keptVersion = 0;

        Node(int number, int counterLimit, int divisor) {
            this.number = number;
            summary = new Summary(counterLimit, divisor);
            kept = new Summary(counterLimit, divisor);
        }

        int itemCount() {
            return summary.n + openCount;
        }

        void putIntoOpenBlock(int value) {
            open[openCount] = value;
            openCount++;
            if (openCount == BLOCK_ITEMS) {
                writeOpenBlock();
            }
        }

        int writeOpenBlock() {
            int written = openCount;
            for (int i = 0; i < written; i++) {
                summary.take(open[i], number);
            }
            openCount = 0;
            return written;
        }
    }

    /** A place for a message; its number is 0 while it is free. */
    private static final class Message {
        int number = 0;
        int sender = 0;
        int version = 0;
        final Summary summary;

        Message(int counterLimit, int divisor) {
            summary = new Summary(counterLimit, divisor);
        }

        void send(int newNumber, int node, int reportVersion, Summary reported) {
            number = newNumber;
            sender = node;
            version = reportVersion;
            summary.setTo(reported);
        }
    }

    private static final class Summary {
        int n = 0;
        long itemSum = 0;
        /** Least and greatest mean nothing while n is 0. */
        int least = 0;
        int greatest = 0;
        final int[] fromLeaf = new int[MOST_NODES];
        final Counters counters;
        final Digest digest;

        Summary(int counterLimit, int divisor) {
            counters = new Counters(counterLimit);
            digest = new Digest(divisor);
        }

        void makeEmpty() {
            n = 0;
            itemSum = 0;
            clear(fromLeaf);
            clear(counters.counts);
            clear(digest.counts);
        }

        void setTo(Summary other) {
            n = other.n;
            itemSum = other.itemSum;
            least = other.least;
            greatest = other.greatest;
            overwrite(fromLeaf, other.fromLeaf);
            overwrite(counters.counts, other.counters.counts);
            overwrite(digest.counts, other.digest.counts);
        }

        void take(int value, int leaf) {
            widen(value, value);
            n++;
            itemSum += value;
            fromLeaf[leaf]++;
            counters.take(value);
            digest.take(value, n);
        }

        void merge(Summary other) {
            widen(other.least, other.greatest);
            n += other.n;
            itemSum += other.itemSum;
            addTo(fromLeaf, other.fromLeaf);
            counters.merge(other.counters);
            digest.merge(other.digest, n);
        }

        /** To be called before n grows, since the first items set both ends. */
        void widen(int low, int high) {
            least = n == 0 ? low : Math.min(least, low);
            greatest = n == 0 ? high : Math.max(greatest, high);
        }
    }

    /** A count for each value; a value with the count 0 has no counter. */
    private static final class Counters {
        final int limit;
        final int[] counts = new int[VALUES];

        Counters(int limit) {
            this.limit = limit;
        }

        void take(int value) {
            if (counts[value] > 0 || valueAtRank(limit - 1) < 0) {
                counts[value]++;
            } else {
                lowerAll(1);
            }
        }

        void merge(Counters other) {
            addTo(counts, other.counts);
            int firstTooMany = valueAtRank(limit);
            if (firstTooMany >= 0) {
                lowerAll(counts[firstTooMany]);
            }
        }

        void lowerAll(int amount) {
            for (int v = 0; v < VALUES; v++) {
                counts[v] = Math.max(0, counts[v] - amount);
            }
        }

        int valueAtRank(int rank) {
            for (int v = 0; v < VALUES; v++) {
                if (counts[v] > 0 && rankOf(v) == rank) {
                    return v;
                }
            }
            return -1;
        }

        int rankOf(int value) {
            int before = 0;
            for (int v = 0; v < VALUES; v++) {
                if (counts[v] > counts[value] || (counts[v] == counts[value] && v < value)) {
                    before++;
                }
            }
            return before;
        }
    }

    /** A count for each of the ranges 1 .. 63; range VALUES + v is the single value v. */
    private static final class Digest {
        final int divisor;
        final int[] counts = new int[2 * VALUES];

        Digest(int divisor) {
            this.divisor = divisor;
        }

        void take(int value, int n) {
            counts[VALUES + value]++;
            compress(n / divisor);
        }

        void merge(Digest other, int n) {
            addTo(counts, other.counts);
            compress(n / divisor);
        }

        void compress(int most) {
            boolean changed = true;
            for (int i = 0; changed && i < MOST_PASSES; i++) {
                changed = pass(most);
            }
        }

        boolean pass(int most) {
            boolean changed = false;
            for (int r = VALUES - 1; r >= 1; r--) {
                int halves = counts[2 * r] + counts[2 * r + 1];
                if (halves > 0 && counts[r] + halves <= most) {
                    counts[r] += halves;
                    counts[2 * r] = 0;
                    counts[2 * r + 1] = 0;
                    changed = true;
                }
            }
            return changed;
        }

        int rangesInUse() {
            int used = 0;
            for (int r = 1; r < 2 * VALUES; r++) {
                if (counts[r] > 0) {
                    used++;
                }
            }
            return used;
        }

        int endingBefore(int value) {
            int count = 0;
            for (int v = 0; v < value; v++) {
                count += endingAt(v);
            }
            return count;
        }

        int startingBefore(int value) {
            int count = 0;
            for (int v = 0; v < value; v++) {
                count += startingAt(v);
            }
            return count;
        }

        /** The counts of all ranges whose greatest value this is: upper halves go on to their parents. */
        int endingAt(int value) {
            int count = 0;
            for (int r = VALUES + value; r >= 1; r = r / 2) {
                count += counts[r];
                if (r % 2 == 0) {
                    break;
                }
            }
            return count;
        }

        /** The counts of all ranges whose least value this is: lower halves go on to their parents. */
        int startingAt(int value) {
            int count = 0;
            for (int r = VALUES + value; r >= 1; r = r / 2) {
                count += counts[r];
                if (r % 2 == 1) {
                    break;
                }
            }
            return count;
        }

        /**
         * Ranges with the same greatest value give the same answer, so they are gone through in one
         * step. Thousandths are compared, so nothing is rounded.
         */
        int valueReaching(int thousandths) {
            int count = 0;
            for (int v = 0; v < VALUES; v++) {
                count += endingAt(v);
                if (count >= 1 && 1000 * count >= thousandths) {
                    return v;
                }
            }
            return -1;
        }
    }

    private static void clear(int[] row) {
        for (int i = 0; i < row.length; i++) {
            row[i] = 0;
        }
    }

    private static void overwrite(int[] row, int[] source) {
        for (int i = 0; i < row.length && i < source.length; i++) {
            row[i] = source[i];
        }
    }

    private static void addTo(int[] row, int[] other) {
        for (int i = 0; i < row.length && i < other.length; i++) {
            row[i] += other[i];
        }
    }
}
