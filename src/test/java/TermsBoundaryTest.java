/** Each sentence of the document's "Terms" that names a boundary case, with a run of its own. */
public final class TermsBoundaryTest {
    private static final Sentences SAYS = new Sentences();
    private static final String LEAF = "attach(0, true) = 1";
    private static final String TWO_LEAVES = "attach(0, true) = 1; attach(0, true) = 2";
    private static final String THREE_LEAVES = TWO_LEAVES + "; attach(0, true) = 3";

    private TermsBoundaryTest() {}

    public static void main(String[] args) {
        nodes();
        parents();
        items();
        openBlock();
        orderOfItems();
        messages();
        messageNumbers();
        messageLimit();
        keeping();
        ranges();
        emptySummary();
        takeNumbers();
        takeIntoCounters();
        takeIntoDigest();
        compressThreshold();
        compressTogether();
        compressPasses();
        mergeNumbers();
        mergeCounters();
        mergeCountersBeyondOneTooMany();
        mergeDigests();
        summaryOfLeaf();
        summaryOfOtherNode();
        fiveHundredAndTwelveCalls();
        SAYS.end();
    }

    private static String adds(int leaf, int... values) {
        return Sentences.adds(leaf, values);
    }

    /** The values in blocks of their own, so that each is in the journal when the row ends. */
    private static String journal(int leaf, int... values) {
        return adds(leaf, values) + "; flush(" + leaf + ") = " + values.length % 4;
    }

    private static void nodes() {
        SAYS.part("terms, nodes");
        SAYS.holds("NODES have the numbers 0, 1, .. in the order in which they were made", 2, 2,
            "attach(0, true) = 1; attach(0, false) = 2; attach(2, true) = 3; attach(0, true) = 4",
            "flush(1) = 0; flush(2) = -1; flush(3) = 0; flush(4) = 0; flush(5) = -1");
        SAYS.holds("at most 12 (the twelfth is made)", 2, 2,
            Sentences.count("attach(0, true) = #", 1, 11), "total(11) = 0; add(11, 5) = true");
        SAYS.holds("at most 12 (the thirteenth is not)", 2, 2,
            Sentences.count("attach(0, true) = #", 1, 11), "attach(0, true) = -1; total(12) = -1");
        SAYS.holds("Node 0 is the root", 2, 2, "total(0) = 0; report(0) = -1; crash(0) = true");
    }

    private static void parents() {
        SAYS.holds("every other node has an older node as its parent", 2, 2,
            "attach(1, true) = -1; attach(1, false) = -1; attach(0, false) = 1; attach(2, true) = -1",
            "attach(1, true) = 2");
        SAYS.holds("its parent, which is the root", 2, 2, "attach(0, true) = 1; attach(0, false) = 2");
        SAYS.holds("its parent, which is [..] an INNER node", 2, 2,
            "attach(0, false) = 1; attach(1, true) = 2; attach(1, false) = 3; attach(3, false) = 4",
            "attach(4, true) = 5");
        SAYS.holds("the others are LEAVES (and no parents)", 2, 2,
            LEAF, "attach(1, true) = -1; attach(1, false) = -1");
        SAYS.holds("A CHILD of a node is a node whose parent it is (not a child's child)", 2, 2,
            "attach(0, false) = 1; attach(1, true) = 2", journal(2, 7), "report(2) = 1; deliver(1) = 1",
            "total(1) = 1; total(0) = 0; crash(0) = true; total(1) = 1");
    }

    private static void items() {
        SAYS.part("terms, items");
        SAYS.holds("ITEMS are values 0 ..", 2, 16, LEAF, journal(1, 0),
            "total(1) = 1; sum(1) = 0; extreme(1, true) = 0; estimate(1, 0) = 1; below(1, 1, false) = 1");
        SAYS.holds("ITEMS are values .. 31", 2, 16, LEAF, journal(1, 31),
            "total(1) = 1; sum(1) = 31; extreme(1, false) = 31; estimate(1, 31) = 1",
            "below(1, 31, true) = 0; below(1, 32, false) = 1");
        SAYS.holds("ITEMS are values 0 .. (less is too small)", 2, 16, LEAF, "add(1, -1) = false; flush(1) = 0");
        SAYS.holds("ITEMS are values .. 31 (more is too large)", 2, 16, LEAF, "add(1, 32) = false; flush(1) = 0");
    }

    private static void openBlock() {
        SAYS.holds("an OPEN BLOCK of less than 4 items (three stay in it)", 2, 16, LEAF,
            adds(1, 5, 6, 7), "total(1) = 0; flush(1) = 3; total(1) = 3");
        SAYS.holds("an open block that has 4 items is written", 2, 16, LEAF,
            adds(1, 5, 6, 7), "total(1) = 0", adds(1, 8), "total(1) = 4; sum(1) = 26");
        SAYS.holds("and it is empty again (nothing is left to write)", 2, 16, LEAF,
            adds(1, 5, 6, 7, 8), "flush(1) = 0; total(1) = 4");
        SAYS.holds("and it is empty again (it holds three items anew)", 2, 16, LEAF,
            adds(1, 5, 6, 7, 8, 1, 2, 3), "total(1) = 4; crash(1) = true; flush(1) = 0; sum(1) = 26");
        SAYS.holds("and it is empty again (after a flush it takes four items too)", 2, 16, LEAF,
            adds(1, 5, 6), "flush(1) = 2", adds(1, 7, 8, 9), "total(1) = 2", adds(1, 10),
            "total(1) = 6; sum(1) = 45");
        SAYS.holds("A leaf has [..] an OPEN BLOCK (each leaf its own)", 2, 16, TWO_LEAVES,
            adds(1, 5, 5), adds(2, 6, 6),
            "total(1) = 0; total(2) = 0; flush(1) = 2; sum(1) = 10; flush(2) = 2; sum(2) = 12");
    }

    /** One counter tells the order: 5, 5, 6, 7 leaves none, but 6, 7, 5, 5 leaves that of 5. */
    private static void orderOfItems() {
        SAYS.holds("its items are appended to the journal in their order (block of four)", 1, 16, LEAF,
            adds(1, 5, 5, 6, 7), "estimate(1, 5) = 0; top(1, 0) = -1");
        SAYS.holds("its items are appended to the journal in their order (the other way)", 1, 16, LEAF,
            adds(1, 6, 7, 5, 5), "estimate(1, 5) = 2; top(1, 0) = 5");
        SAYS.holds("its items are appended to the journal in their order (flushed block)", 1, 16, LEAF,
            adds(1, 5, 6, 7), "flush(1) = 3; estimate(1, 7) = 1; estimate(1, 5) = 0");
        SAYS.holds("an OPEN BLOCK of [..] items that come after those of the journal", 1, 16, LEAF,
            journal(1, 5, 5), adds(1, 6, 7), "flush(1) = 2; estimate(1, 5) = 0; top(1, 0) = -1");
    }

    private static void messages() {
        SAYS.part("terms, messages");
        SAYS.holds("puts a message on its way to the node's parent (not to the root)", 2, 16,
            "attach(0, false) = 1; attach(1, true) = 2", journal(2, 7),
            "report(2) = 1; deliver(1) = 1; total(1) = 1; total(0) = 0");
        SAYS.holds("the node (the parent keeps it for that child)", 2, 16, TWO_LEAVES, journal(2, 7),
            "report(2) = 1; deliver(1) = 1; covered(0, 2) = 1; covered(0, 1) = 0");
        SAYS.holds("the VERSION (the number of this report among all reports of that node)", 2, 16, TWO_LEAVES,
            "report(1) = 1; report(1) = 2; report(2) = 3; deliver(2) = 1; deliver(3) = 1; deliver(1) = 0");
        SAYS.holds("the VERSION [..] from 1 on (the first is newer than none)", 2, 16, LEAF,
            "report(1) = 1; deliver(1) = 1");
        SAYS.holds("the node's summary as it is then (leaf)", 2, 16, LEAF, adds(1, 5, 5, 5, 5), "report(1) = 1",
            adds(1, 6, 6, 6, 6),
            "deliver(1) = 1; total(0) = 4; sum(0) = 20; extreme(0, true) = 5; estimate(0, 6) = 0");
        SAYS.holds("the node's summary as it is then (inner node that keeps more later)", 2, 16,
            "attach(0, false) = 1; attach(1, true) = 2", journal(2, 7),
            "report(2) = 1; report(1) = 2; deliver(1) = 1; deliver(2) = 1; total(1) = 1; total(0) = 0");
        SAYS.holds("the node's summary as it is then (inner node that crashes later)", 2, 16,
            "attach(0, false) = 1; attach(1, true) = 2", journal(2, 7),
            "report(2) = 1; deliver(1) = 1; report(1) = 2; crash(1) = true; deliver(2) = 1; total(1) = 0",
            "total(0) = 1");
        SAYS.holds("the node's summary as it is then (without the open block)", 2, 16, LEAF,
            adds(1, 5, 5, 5), "report(1) = 1; flush(1) = 3; deliver(1) = 1; total(0) = 0");
    }

    private static void messageNumbers() {
        SAYS.holds("A message gets the next number 1, 2, .. (by a report or a copy)", 2, 16, LEAF,
            "report(1) = 1; copy(1) = 2; report(1) = 3; copy(2) = 4; report(1) = 5");
        SAYS.holds("A message gets the next number (that of a dropped one is not given again)", 2, 16, LEAF,
            "report(1) = 1; drop(1) = true; report(1) = 2; copy(2) = 3; drop(3) = true; copy(2) = 4");
        SAYS.holds("A message gets the next number (that of an arrived one is not given again)", 2, 16, LEAF,
            "report(1) = 1; deliver(1) = 1; report(1) = 2; deliver(2) = 1; report(1) = 3");
        SAYS.holds("A message gets the next number (a refused report takes none)", 2, 16, LEAF,
            "report(0) = -1; report(2) = -1; report(1) = 1");
        SAYS.holds("A message gets the next number (a refused copy takes none)", 2, 16, LEAF,
            "copy(1) = -1; report(1) = 1; copy(2) = -1; report(1) = 2");
    }

    private static void messageLimit() {
        String full = Sentences.count("report(1) = #", 1, 12);
        SAYS.holds("at most 12 messages are on their way (the twelfth by a report)", 2, 16, LEAF,
            full, "onTheWay() = 12; deliver(12) = 1");
        SAYS.holds("at most 12 messages are on their way (the twelfth by a copy)", 2, 16, LEAF,
            Sentences.count("report(1) = #", 1, 11), "copy(1) = 12; onTheWay() = 12; deliver(12) = 1");
        SAYS.holds("at most 12 messages are on their way (no thirteenth by a report)", 2, 16, LEAF,
            full, "report(1) = -1; onTheWay() = 12");
        SAYS.holds("at most 12 messages are on their way (no thirteenth by a copy)", 2, 16, LEAF,
            full, "copy(1) = -1; copy(12) = -1; onTheWay() = 12");
        SAYS.holds("at most 12 messages are on their way at a time (a dropped one makes room)", 2, 16, LEAF,
            full, "drop(7) = true; report(1) = 13; report(1) = -1; drop(1) = true; copy(13) = 14; copy(13) = -1");
        SAYS.holds("at most 12 messages are on their way at a time (an arrived one makes room)", 2, 16, LEAF,
            full, "deliver(7) = 1; report(1) = 13; report(1) = -1; deliver(3) = 0; copy(13) = 14; copy(13) = -1");
        SAYS.holds("at most 12 messages are on their way (of all nodes together)", 2, 16, TWO_LEAVES,
            Sentences.count("report(1) = #", 1, 6), Sentences.count("report(2) = #", 7, 12),
            "report(1) = -1; report(2) = -1; onTheWay() = 12");
    }

    private static void keeping() {
        SAYS.part("terms, keeping");
        SAYS.holds("An inner node [..] KEEPS", 2, 16, "attach(0, false) = 1; attach(1, true) = 2", journal(2, 7),
            "report(2) = 1; deliver(1) = 1; total(1) = 1");
        SAYS.holds("(the root too) KEEPS", 2, 16, LEAF, journal(1, 7), "report(1) = 1; deliver(1) = 1; total(0) = 1");
        SAYS.holds("KEEPS for each child", 2, 16, TWO_LEAVES, journal(1, 7), journal(2, 8, 8),
            "report(1) = 1; report(2) = 2; deliver(1) = 1; deliver(2) = 1; total(0) = 3; sum(0) = 23");
        SAYS.holds("the summary and the version of one message (a newer one takes its place)", 2, 16, LEAF,
            adds(1, 5, 5, 5, 5), "report(1) = 1; deliver(1) = 1", adds(1, 6, 6, 6, 6),
            "report(1) = 2; deliver(2) = 1; total(0) = 8; covered(0, 1) = 8");
        SAYS.holds("or none", 2, 16, "attach(0, false) = 1; attach(1, true) = 2", journal(2, 7),
            "total(1) = 0; total(0) = 0");
    }

    /** With d = 2 two items of partners in one parent stay below it: t is 1, and they are 2. */
    private static void ranges() {
        SAYS.part("terms, ranges");
        SAYS.holds("ranges 32 .. 63 are the single values 0 .. 31", 2, 2, LEAF, journal(1, 0, 1),
            "digestSize(1) = 2; below(1, 1, false) = 1; below(1, 1, true) = 1; below(1, 2, false) = 2");
        halves("range 16, 17", 0, 2, 2);
        halves("range 30, 31", 28, 30, 2);
        halves("range 8, 9", 0, 4, 4);
        halves("range 14, 15", 24, 28, 4);
        halves("range 4, 5", 0, 8, 8);
        halves("range 6, 7", 16, 24, 8);
        halves("range 2, 3", 0, 16, 16);
        SAYS.holds("range 1 is all values 0 .. 31", 2, 2, LEAF, journal(1, 9, 9, 20),
            "digestSize(1) = 2; below(1, 0, true) = 0; below(1, 1, true) = 1; below(1, 9, false) = 0",
            "below(1, 31, false) = 2; below(1, 32, false) = 3");
    }

    /** Items at the far ends of the lower and of the upper half, which begin there and are so wide. */
    private static void halves(String which, int low, int high, int width) {
        int end = high + width;
        SAYS.holds("the lower and the upper half of range r: " + which, 2, 2, LEAF, journal(1, low, end - 1),
            "digestSize(1) = 2",
            "below(1, " + low + ", true) = 0; below(1, " + (low + 1) + ", true) = 1",
            "below(1, " + (high - 1) + ", false) = 0; below(1, " + high + ", false) = 1",
            "below(1, " + high + ", true) = 1; below(1, " + (high + 1) + ", true) = 2",
            "below(1, " + (end - 1) + ", false) = 1; below(1, " + end + ", false) = 2");
    }

    private static void emptySummary() {
        SAYS.part("terms, the empty summary");
        String questions = "total(#) = 0; sum(#) = 0; extreme(#, false) = -1; extreme(#, true) = -1; covered(#, 1) = 0; "
            + "covered(#, 3) = 0; estimate(#, 0) = 0; estimate(#, 31) = 0; top(#, 0) = -1; digestSize(#) = 0; "
            + "below(#, 0, false) = 0; below(#, 32, false) = 0; below(#, 0, true) = 0; below(#, 32, true) = 0; "
            + "quantile(#, 0) = -1; quantile(#, 1000) = -1";
        String made = "attach(0, true) = 1; attach(0, false) = 2; attach(2, true) = 3";
        String sentence = "The EMPTY summary has no items, no counters, and all counts of the digest 0 ";
        SAYS.holds(sentence + "(leaf)", 1, 2, made, questions.replace("#", "1"));
        SAYS.holds(sentence + "(inner node)", 1, 2, made, questions.replace("#", "2"));
        SAYS.holds(sentence + "(root)", 1, 2, made, questions.replace("#", "0"));
        SAYS.holds(sentence + "(after a crash)", 1, 2, made, journal(1, 0, 31, 7),
            "report(1) = 1; deliver(1) = 1; total(0) = 3; crash(0) = true", questions.replace("#", "0"));
        SAYS.holds(sentence + "(one such is kept)", 1, 2, made, "report(1) = 1; deliver(1) = 1",
            questions.replace("#", "0"));
    }

    private static void takeNumbers() {
        SAYS.part("terms, to take");
        SAYS.holds("least, greatest [..] change as they must (the first item is both)", 2, 16, LEAF, journal(1, 7),
            "extreme(1, false) = 7; extreme(1, true) = 7");
        SAYS.holds("least [..] change as they must (a lesser one)", 2, 16, LEAF, journal(1, 7, 6),
            "extreme(1, false) = 6; extreme(1, true) = 7");
        SAYS.holds("greatest [..] change as they must (a greater one)", 2, 16, LEAF, journal(1, 7, 8),
            "extreme(1, false) = 7; extreme(1, true) = 8");
        SAYS.holds("least, greatest [..] change as they must (one between)", 2, 16, LEAF, journal(1, 7, 9, 8),
            "extreme(1, false) = 7; extreme(1, true) = 9");
        SAYS.holds("n, sum [..] change as they must", 2, 16, LEAF, journal(1, 0), "total(1) = 1; sum(1) = 0",
            journal(1, 31), "total(1) = 2; sum(1) = 31", journal(1, 31), "total(1) = 3; sum(1) = 62");
        SAYS.holds("sum [..] change as they must (48 of the greatest item)", 2, 16, LEAF,
            Sentences.times(48, "add(1, 31) = true"), "total(1) = 48; sum(1) = 1488");
        SAYS.holds("its leaf's number change as they must", 2, 16, TWO_LEAVES, journal(2, 7, 7),
            "covered(2, 2) = 2; covered(2, 1) = 0; covered(1, 2) = 0; covered(1, 1) = 0");
    }

    private static void takeIntoCounters() {
        SAYS.holds("If v has a counter, its count grows by 1", 1, 16, LEAF, journal(1, 5), "estimate(1, 5) = 1",
            journal(1, 5), "estimate(1, 5) = 2");
        SAYS.holds("If v has a counter, its count grows by 1 (with k counters too)", 2, 16, LEAF,
            journal(1, 5, 6, 5), "estimate(1, 5) = 2; estimate(1, 6) = 1");
        SAYS.holds("if there are fewer than k counters, v gets a counter with the count 1 (the k-th)", 3, 16, LEAF,
            journal(1, 5, 6, 7), "estimate(1, 5) = 1; estimate(1, 6) = 1; estimate(1, 7) = 1; top(1, 2) = 7");
        SAYS.holds("otherwise all counts of counters go down by 1", 2, 16, LEAF,
            adds(1, 5, 5, 6, 6), journal(1, 5, 7), "estimate(1, 5) = 2; estimate(1, 6) = 1");
        SAYS.holds("(a counter with the count 0 is gone)", 2, 16, LEAF,
            adds(1, 5, 5, 6, 7), "estimate(1, 6) = 0; top(1, 0) = 5; top(1, 1) = -1");
        SAYS.holds("(a counter with the count 0 is gone: its place is free)", 2, 16, LEAF,
            adds(1, 5, 5, 6, 7), journal(1, 8), "estimate(1, 8) = 1; estimate(1, 5) = 1; top(1, 1) = 8");
        SAYS.holds("and v gets none", 2, 16, LEAF, adds(1, 5, 5, 6, 7), "estimate(1, 7) = 0");
        SAYS.holds("and v gets none (when all counters go, too)", 1, 16, LEAF,
            journal(1, 5, 7), "estimate(1, 7) = 0; estimate(1, 5) = 0; top(1, 0) = -1; total(1) = 2");
    }

    private static void takeIntoDigest() {
        SAYS.holds("the count of range 32 + v grows by 1 (v is 0)", 1, 16, LEAF, journal(1, 0),
            "below(1, 0, true) = 0; below(1, 1, false) = 1; digestSize(1) = 1");
        SAYS.holds("the count of range 32 + v grows by 1 (v is 31)", 1, 16, LEAF, journal(1, 31),
            "below(1, 31, true) = 0; below(1, 32, false) = 1; digestSize(1) = 1");
        SAYS.holds("the count of range 32 + v grows by 1 (a second time)", 1, 16, LEAF, journal(1, 9, 9),
            "below(1, 9, true) = 0; below(1, 10, false) = 2; digestSize(1) = 1");
        SAYS.holds("then the digest is compressed (after each item)", 1, 2, LEAF,
            // After 0 and 2 ranges 16 and 17 have 1 each; after all three at once they would not.
            adds(1, 0, 2, 3), "flush(1) = 3; digestSize(1) = 3; below(1, 1, false) = 0; below(1, 2, false) = 1",
            "below(1, 3, false) = 1; below(1, 3, true) = 2; below(1, 4, false) = 3");
    }

    /** A single item rises when t is 1, two of one value when t is 2; the 31 are too many to rise. */
    private static void compressThreshold() {
        SAYS.part("terms, to compress");
        SAYS.holds("let t be n / d, rounded down (n is d - 1: t is 0)", 1, 4, LEAF, journal(1, 0, 31, 31),
            "below(1, 1, false) = 1; digestSize(1) = 2");
        SAYS.holds("let t be n / d (n is d: t is 1)", 1, 4, LEAF, adds(1, 0, 31, 31, 31),
            "below(1, 1, false) = 0; below(1, 31, false) = 0; below(1, 1, true) = 1; digestSize(1) = 2");
        SAYS.holds("let t be n / d, rounded down (n is 2 * d - 1: t is 1)", 1, 4, LEAF,
            adds(1, 0, 0, 31, 31), journal(1, 31, 31, 31), "below(1, 1, false) = 2; digestSize(1) = 2");
        SAYS.holds("let t be n / d (n is 2 * d: t is 2)", 1, 4, LEAF,
            adds(1, 0, 0, 31, 31, 31, 31, 31, 31),
            "below(1, 1, false) = 0; below(1, 31, false) = 0; below(1, 1, true) = 2");
    }

    private static void compressTogether() {
        SAYS.holds("together are at most t (as many as t rise)", 1, 2, LEAF, adds(1, 0, 1, 31, 31),
            "below(1, 2, false) = 0; below(1, 16, false) = 2");
        SAYS.holds("together are at most t (one more than t stay)", 1, 2, LEAF, journal(1, 0, 1),
            "below(1, 1, false) = 1; below(1, 2, false) = 2; digestSize(1) = 2");
        SAYS.holds("the counts of r, 2 * r and 2 * r + 1 together (that of r too)", 1, 2, LEAF,
            // Ranges 16 and 17 have 1 each, so the second 0 stays single: 16 would have 2.
            journal(1, 0, 2, 0), "digestSize(1) = 3; below(1, 1, false) = 1; below(1, 2, false) = 2");
        SAYS.holds("the count of r becomes their sum (r has a count already)", 1, 2, LEAF,
            // t is 2 now: 16 takes the second 0, and its 2 go on to range 8 but not with the 2 in 17.
            adds(1, 0, 2, 0, 2),
            "digestSize(1) = 2; below(1, 1, false) = 0; below(1, 2, false) = 2; below(1, 4, false) = 4");
        SAYS.holds("and those of 2 * r and 2 * r + 1 become 0", 1, 2, LEAF, journal(1, 9, 9, 20),
            "below(1, 32, false) = 3; below(1, 32, true) = 3; digestSize(1) = 2");
        SAYS.holds("A PASS goes over the ranges r = 31, .. (the first)", 1, 2, LEAF, journal(1, 29, 31),
            "below(1, 31, false) = 1; below(1, 31, true) = 2; digestSize(1) = 2");
        SAYS.holds("A PASS goes over the ranges .., 1 (the last)", 1, 2, LEAF, journal(1, 9, 9, 20),
            "below(1, 1, true) = 1; below(1, 31, false) = 2");
    }

    private static void compressPasses() {
        SAYS.holds("in this order", 1, 2, LEAF,
            // Ranges 2, 3 and 4 have 1 each; with 30 t is 2, and 2 and 3 are filled before 1 is asked.
            adds(1, 0, 31, 0, 30), "digestSize(1) = 2; below(1, 16, false) = 2; below(1, 1, true) = 2",
            "below(1, 15, false) = 0; below(1, 17, true) = 4");
        SAYS.holds("Passes are made until one changes no count", 1, 2, TWO_LEAVES, journal(1, 0, 31),
            journal(2, 0, 0),
            // Pass 1 lifts 32 to 4, and 2 and 3 to 1; only pass 2 can lift 4 to 2.
            "report(1) = 1; deliver(1) = 1; report(2) = 2; deliver(2) = 1; digestSize(0) = 2",
            "below(0, 8, false) = 0; below(0, 16, false) = 2; below(0, 31, false) = 2; below(0, 1, true) = 4");
    }

    private static void mergeNumbers() {
        SAYS.part("terms, to merge");
        String both = "report(1) = 1; deliver(1) = 1; report(2) = 2; deliver(2) = 1";
        SAYS.holds("numbers of items, sums and numbers of leaves are added", 2, 16, TWO_LEAVES,
            journal(1, 31, 31), journal(2, 30), both, "total(0) = 3; sum(0) = 92; covered(0, 1) = 2; covered(0, 2) = 1");
        SAYS.holds("least and greatest are those of both (A's are)", 2, 16, TWO_LEAVES,
            journal(1, 4, 20), journal(2, 9), both, "extreme(0, false) = 4; extreme(0, true) = 20");
        SAYS.holds("least and greatest are those of both (B's are)", 2, 16, TWO_LEAVES,
            journal(1, 9), journal(2, 4, 20), both, "extreme(0, false) = 4; extreme(0, true) = 20");
        SAYS.holds("least and greatest are those of both (A's least, B's greatest)", 2, 16, TWO_LEAVES,
            journal(1, 4), journal(2, 20), both, "extreme(0, false) = 4; extreme(0, true) = 20");
        SAYS.holds("least and greatest are those of both (B's least, A's greatest)", 2, 16, TWO_LEAVES,
            journal(1, 20), journal(2, 4), both, "extreme(0, false) = 4; extreme(0, true) = 20");
        SAYS.holds("least and greatest are those of both (the ends of the items)", 2, 16, TWO_LEAVES,
            journal(1, 31), journal(2, 0), both, "extreme(0, false) = 0; extreme(0, true) = 31");
        SAYS.holds("merged into the empty summary (its least and greatest are none)", 2, 16, TWO_LEAVES,
            journal(1, 20), "report(1) = 1; deliver(1) = 1; extreme(0, false) = 20; extreme(0, true) = 20");
        SAYS.holds("merged into the empty summary (nothing is left of before a crash)", 2, 16, TWO_LEAVES,
            journal(1, 0, 31), journal(2, 9), "report(1) = 1; deliver(1) = 1; extreme(0, false) = 0; extreme(0, true) = 31",
            "crash(0) = true; report(2) = 2; deliver(2) = 1; extreme(0, false) = 9; extreme(0, true) = 9; sum(0) = 9");
        SAYS.holds("merged into the empty summary (nothing is left of an older message)", 2, 16,
            "attach(0, false) = 1; attach(1, true) = 2; attach(1, true) = 3", journal(2, 0, 31), journal(3, 9),
            "report(2) = 1; deliver(1) = 1; report(1) = 2; deliver(2) = 1; extreme(0, true) = 31; crash(1) = true",
            "report(3) = 3; deliver(3) = 1; report(1) = 4; deliver(4) = 1; extreme(0, false) = 9; extreme(0, true) = 9",
            "total(0) = 1; sum(0) = 9; covered(0, 2) = 0; covered(0, 3) = 1; estimate(0, 0) = 0; digestSize(0) = 1");
    }

    private static void mergeCounters() {
        String both = "report(1) = 1; deliver(1) = 1; report(2) = 2; deliver(2) = 1";
        SAYS.holds("The counts of counters are added value by value", 2, 16, TWO_LEAVES,
            journal(1, 5, 5, 6), journal(2, 5), both, "estimate(0, 5) = 3; estimate(0, 6) = 1");
        SAYS.holds("when more than k values have a counter (k do: nothing is taken)", 2, 16, TWO_LEAVES,
            journal(1, 5, 5), journal(2, 6), both, "estimate(0, 5) = 2; estimate(0, 6) = 1");
        SAYS.holds("when more than k values have a counter (k in both, the same ones: nothing is taken)", 2, 16,
            TWO_LEAVES, journal(1, 5, 6), journal(2, 6, 5), both, "estimate(0, 5) = 2; estimate(0, 6) = 2");
        SAYS.holds("the (k + 1)-th greatest of these counts [..] is taken from all of them", 2, 16, TWO_LEAVES,
            adds(1, 5, 5, 5, 5), journal(1, 6), adds(2, 7, 7), "flush(2) = 2", both,
            "estimate(0, 5) = 3; estimate(0, 7) = 1; estimate(0, 6) = 0; top(0, 2) = -1");
        SAYS.holds("(equal ones are counted singly: first and second)", 2, 16, TWO_LEAVES,
            adds(1, 5, 5, 5, 6), journal(2, 7, 7, 7), both,
            "estimate(0, 5) = 2; estimate(0, 7) = 2; estimate(0, 6) = 0");
        SAYS.holds("(equal ones are counted singly: second and third)", 2, 16, TWO_LEAVES,
            adds(1, 5, 5, 5, 6), journal(1, 6), journal(2, 7, 7), both,
            "estimate(0, 5) = 1; estimate(0, 6) = 0; estimate(0, 7) = 0; top(0, 0) = 5; top(0, 1) = -1");
        SAYS.holds("those that are 0 [..] then are gone (all of them)", 1, 16, TWO_LEAVES,
            journal(1, 5, 5), journal(2, 6, 6), both,
            "estimate(0, 5) = 0; estimate(0, 6) = 0; top(0, 0) = -1; total(0) = 4");
    }

    private static void mergeCountersBeyondOneTooMany() {
        String both = "report(1) = 1; deliver(1) = 1; report(2) = 2; deliver(2) = 1";
        // Counts 3, 2, 4, 1 of 5, 6, 7, 8: 2 is taken, which leaves 5 with 1 and 7 with 2.
        String four = adds(1, 5, 5, 5, 6) + "; " + journal(1, 6) + "; " + adds(2, 7, 7, 7, 7) + "; " + journal(2, 8);
        SAYS.holds("the (k + 1)-th greatest (of k + 2)", 2, 16, TWO_LEAVES, four, both,
            "estimate(0, 5) = 1; estimate(0, 7) = 2; estimate(0, 6) = 0; top(0, 0) = 7; top(0, 1) = 5",
            "top(0, 2) = -1");
        SAYS.holds("the (k + 1)-th greatest (of 2 * k, with the greatest k)", 6, 16, TWO_LEAVES,
            // 1 to 6 have 2 each, 7 has 3 and 8 to 12 have 1: the seventh greatest is 2.
            journal(1, 1, 2, 3, 4, 5, 6, 1, 2, 3, 4, 5, 6), journal(2, 7, 8, 9, 10, 11, 12, 7, 7), both,
            "estimate(0, 7) = 1; top(0, 0) = 7; top(0, 1) = -1", Sentences.count("estimate(0, #) = 0", 1, 6),
            Sentences.count("estimate(0, #) = 0", 8, 12), "total(0) = 20");
        SAYS.holds("the (k + 1)-th greatest (of k + 1, with the greatest k)", 6, 16, TWO_LEAVES,
            journal(1, 1, 2, 3, 4, 5, 6, 1, 2, 3, 4, 5, 6), journal(2, 7), both, "estimate(0, 7) = 0",
            Sentences.count("estimate(0, #) = 1", 1, 6), "top(0, 5) = 6; top(0, 6) = -1");
        SAYS.holds("those that are [..] less then are gone (and answer 0)", 2, 16, TWO_LEAVES, four, both,
            "estimate(0, 8) = 0");
        SAYS.holds("those that are [..] less then are gone (a later merge finds none)", 2, 16, THREE_LEAVES, four,
            both,
            journal(3, 8), "report(3) = 3; deliver(3) = 1; estimate(0, 7) = 1; estimate(0, 5) = 0; estimate(0, 8) = 0");
    }

    private static void mergeDigests() {
        String both = "report(1) = 1; deliver(1) = 1; report(2) = 2; deliver(2) = 1";
        SAYS.holds("The counts of the digests are added range by range", 2, 16, TWO_LEAVES,
            journal(1, 0, 31), journal(2, 31, 9), both,
            "digestSize(0) = 3; below(0, 1, false) = 1; below(0, 10, false) = 2; below(0, 31, true) = 2",
            "below(0, 32, false) = 4");
        SAYS.holds("then the digest is compressed (with the new n)", 2, 2, TWO_LEAVES, journal(1, 0), journal(2, 16),
            both,
            "below(1, 1, false) = 1; below(0, 1, false) = 0; below(0, 15, false) = 0; below(0, 16, false) = 1",
            "below(0, 16, true) = 1; below(0, 17, true) = 2; below(0, 31, false) = 1; digestSize(0) = 2");
        SAYS.holds("then the digest is compressed (with the new n, still less than d)", 2, 3, TWO_LEAVES,
            journal(1, 0), journal(2, 16), both,
            "below(0, 1, false) = 1; below(0, 17, false) = 2; below(0, 16, true) = 1");
    }

    private static void summaryOfLeaf() {
        SAYS.part("terms, the summary of a node");
        SAYS.holds("Leaf: the empty summary into which the items of its journal are taken", 2, 16, LEAF,
            journal(1, 3, 9), "total(1) = 2; sum(1) = 12; top(1, 0) = 3; top(1, 1) = 9");
        SAYS.holds("(not those of the open block)", 2, 16, LEAF, adds(1, 5, 5, 5, 5, 0, 31, 31),
            "total(1) = 4; sum(1) = 20; extreme(1, false) = 5; extreme(1, true) = 5; covered(1, 1) = 4",
            "estimate(1, 31) = 0",
            "top(1, 1) = -1; digestSize(1) = 1; below(1, 5, true) = 0; below(1, 32, true) = 4",
            "quantile(1, 1000) = 5");
    }

    private static void summaryOfOtherNode() {
        SAYS.holds("the summaries that it keeps and that have items (the first has none)", 2, 16, TWO_LEAVES,
            journal(2, 7), "report(1) = 1; deliver(1) = 1; report(2) = 2; deliver(2) = 1",
            "total(0) = 1; extreme(0, false) = 7; extreme(0, true) = 7");
        SAYS.holds("the summaries that it keeps and that have items (the last has none)", 2, 16, TWO_LEAVES,
            journal(1, 7), "report(1) = 1; deliver(1) = 1; report(2) = 2; deliver(2) = 1",
            "total(0) = 1; extreme(0, false) = 7; extreme(0, true) = 7");
        SAYS.holds("by ascending numbers of the children (not in the order of arrival)", 1, 16, THREE_LEAVES,
            // 1 and 2 undo each other, 3 is left; by the order of arrival 1 would be.
            journal(1, 1, 1), journal(2, 2, 2), journal(3, 3, 3),
            "report(3) = 1; deliver(1) = 1; report(2) = 2; deliver(2) = 1",
            "report(1) = 3; deliver(3) = 1; estimate(0, 3) = 2; estimate(0, 1) = 0; top(0, 0) = 3");
        SAYS.holds("by ascending numbers of the children (digests)", 1, 2, THREE_LEAVES,
            // 1 and 2 first: range 1 would have 2, so 2 and 3 keep 1 each until the third comes.
            journal(1, 0), journal(2, 31), journal(3, 0), "report(3) = 1; deliver(1) = 1; report(2) = 2; deliver(2) = 1",
            "report(1) = 3; deliver(3) = 1; digestSize(0) = 3; below(0, 8, false) = 1; below(0, 1, false) = 0",
            "below(0, 16, false) = 2");
        SAYS.holds("one after the other (not all at once)", 1, 16, THREE_LEAVES,
            // 2 and 1 leave 1, which takes 1 from the next 2; at once the 2 would be taken from the 2.
            journal(1, 1, 1), journal(2, 2), journal(3, 3, 3),
            "report(1) = 1; deliver(1) = 1; report(2) = 2; deliver(2) = 1",
            "report(3) = 3; deliver(3) = 1; estimate(0, 3) = 1; estimate(0, 1) = 0; estimate(0, 2) = 0");
    }

    private static void fiveHundredAndTwelveCalls() {
        SAYS.part("what it is");
        StringBuilder rows = new StringBuilder(LEAF);
        for (int message = 1; message <= 255; message++) {
            rows.append("; report(1) = ").append(message).append("; deliver(").append(message).append(") = 1");
        }
        SAYS.holds("An object is used for at most 512 calls (the last of them answers)", 2, 16,
            rows.toString(), "report(1) = 256");
    }
}
