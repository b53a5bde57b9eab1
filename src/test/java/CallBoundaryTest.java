/** Each sentence of promises 1 to 10 that names a boundary case, with a run of its own. */
public final class CallBoundaryTest {
    private static final Sentences SAYS = new Sentences();
    private static final String LEAF = "attach(0, true) = 1";
    private static final String LEAF_AND_INNER = "attach(0, true) = 1; attach(0, false) = 2";
    private static final String TWELVE_ON_THE_WAY = Sentences.count("report(1) = #", 1, 12);

    private CallBoundaryTest() {}

    public static void main(String[] args) {
        newObject();
        counterLimit();
        digestDivisor();
        attach();
        attachRefused();
        add();
        addToNoLeaf();
        addNoValue();
        addToFullLeaf();
        flush();
        flushRefused();
        crashOfLeaf();
        crashOfOtherNode();
        crashLeavesTheRest();
        report();
        reportRefused();
        copy();
        copyRefused();
        drop();
        dropRefused();
        deliver();
        deliverToEachParent();
        deliverRefused();
        onTheWay();
        SAYS.end();
    }

    private static String adds(int leaf, int... values) {
        return Sentences.adds(leaf, values);
    }

    private static void newObject() {
        SAYS.part("promise 1");
        SAYS.holds("Only the root (it is there)", 2, 2, "total(0) = 0; sum(0) = 0; crash(0) = true");
        SAYS.holds("Only the root (no other node is)", 2, 2, Sentences.count("total(#) = -1", 1, 13),
            "attach(0, true) = 1");
        SAYS.holds("Only the root (which is no leaf)", 2, 2, "add(0, 5) = false; flush(0) = -1; covered(0, 0) = -1");
        SAYS.holds("no messages (none is on its way)", 2, 2, "onTheWay() = 0");
        SAYS.holds("no messages (none to copy, to drop or to deliver)", 2, 2,
            Sentences.count("copy(#) = -1; drop(#) = false; deliver(#) = -1", 0, 13));
        SAYS.holds("no messages (the first gets the number 1)", 2, 2, LEAF, "report(1) = 1");
    }

    private static void counterLimit() {
        SAYS.part("promise 1");
        for (int k = 1; k <= 6; k++) {
            counterLimitIs("k: the number itself", k, k);
        }
        for (int k : new int[] {0, -1, -6, Integer.MIN_VALUE}) {
            counterLimitIs("k: [..] but 1 if it is less than 1", k, 1);
        }
        for (int k : new int[] {7, 8, 32, 257, Integer.MAX_VALUE}) {
            counterLimitIs("k: [..] and 6 if it is more than 6", k, 6);
        }
    }

    /** So many values get counters, and one value more takes them all away. */
    private static void counterLimitIs(String sentence, int k, int limit) {
        SAYS.holds(sentence, k, 16, LEAF, Sentences.count("add(1, #) = true", 1, limit), "flush(1) = " + limit % 4,
            "top(1, " + (limit - 1) + ") = " + limit, "add(1, 31) = true; flush(1) = 1; top(1, 0) = -1");
    }

    private static void digestDivisor() {
        SAYS.part("promise 1");
        for (int d = 2; d <= 16; d++) {
            divisorIs("d likewise (the number itself)", d, d);
        }
        for (int d : new int[] {1, 0, -1, -2, Integer.MIN_VALUE}) {
            divisorIs("d likewise, from 2 (less counts as 2)", d, 2);
        }
        for (int d : new int[] {17, 18, 32, 258, Integer.MAX_VALUE}) {
            divisorIs("d likewise, [..] to 16 (more counts as 16)", d, 16);
        }
    }

    /** A single 1 stays as it is until n is the divisor, and rises then. */
    private static void divisorIs(String sentence, int d, int divisor) {
        SAYS.holds(sentence, 1, d, LEAF, adds(1, 1), Sentences.times(divisor - 2, "add(1, 20) = true"),
            "flush(1) = " + (divisor - 1) % 4, "below(1, 1, true) = 0; below(1, 2, false) = 1",
            "add(1, 20) = true; flush(1) = 1; below(1, 1, true) = 1; below(1, 2, false) = 0");
    }

    private static void attach() {
        SAYS.part("promise 2");
        SAYS.holds("Makes an inner node (which has no items of its own)", 2, 2,
            "attach(0, false) = 1; add(1, 5) = false; flush(1) = -1; covered(1, 1) = -1");
        SAYS.holds("Makes an inner node (which can be a parent)", 2, 2, "attach(0, false) = 1; attach(1, true) = 2");
        SAYS.holds("(or a leaf)", 2, 2, "attach(0, true) = 1; add(1, 5) = true; flush(1) = 1; covered(1, 1) = 1");
        SAYS.holds("with that parent", 2, 2, "attach(0, false) = 1; attach(0, false) = 2; attach(2, true) = 3",
            adds(3, 5, 5, 5, 5), "report(3) = 1; deliver(1) = 1; total(2) = 4; total(1) = 0; total(0) = 0");
        SAYS.holds("and answers its number (to the twelfth)", 2, 2,
            Sentences.count("attach(0, false) = #", 1, 10), "attach(10, true) = 11; add(11, 5) = true");
        SAYS.holds("and answers its number (in a chain, to the twelfth)", 2, 2,
            "attach(0, false) = 1; attach(1, false) = 2; attach(2, false) = 3; attach(3, false) = 4",
            "attach(4, false) = 5; attach(5, false) = 6; attach(6, false) = 7",
            "attach(7, false) = 8; attach(8, false) = 9; attach(9, false) = 10; attach(10, true) = 11");
    }

    private static void attachRefused() {
        SAYS.part("promise 2");
        SAYS.holds("-1 when parent is not the root or an inner node (a leaf)", 2, 2, LEAF_AND_INNER,
            "attach(1, true) = -1; attach(1, false) = -1; attach(0, true) = 3");
        SAYS.holds("-1 when parent is not the root or an inner node (no node yet)", 2, 2, LEAF_AND_INNER,
            Sentences.count("attach(#, true) = -1; attach(#, false) = -1", 3, 12), "attach(0, true) = 3");
        SAYS.holds("-1 when parent is not the root or an inner node (never a node)", 2, 2, LEAF_AND_INNER,
            Sentences.each("attach(#, true) = -1; attach(#, false) = -1", Sentences.NO_NODES), "attach(0, true) = 3");
        SAYS.holds("-1 when [..] 12 nodes are there (parent is the root)", 2, 2,
            Sentences.count("attach(0, false) = #", 1, 11),
            "attach(0, true) = -1; attach(0, false) = -1; total(12) = -1");
        SAYS.holds("-1 when [..] 12 nodes are there (parent is an inner node)", 2, 2,
            Sentences.count("attach(0, false) = #", 1, 11),
            "attach(11, true) = -1; attach(1, false) = -1; total(12) = -1");
    }

    private static void add() {
        SAYS.part("promise 3");
        SAYS.holds("Puts an item into the open block of a leaf [..] and answers true", 2, 16, LEAF,
            "add(1, 5) = true; total(1) = 0; flush(1) = 1; total(1) = 1; sum(1) = 5");
        SAYS.holds("which may be written then (with the fourth item)", 2, 16, LEAF, adds(1, 5, 6, 7), "total(1) = 0",
            "add(1, 8) = true; total(1) = 4; sum(1) = 26");
        SAYS.holds("which may be written then (with the last that has room)", 2, 16, LEAF,
            Sentences.times(47, "add(1, 5) = true"), "total(1) = 44; add(1, 5) = true; total(1) = 48; flush(1) = 0");
        SAYS.holds("of a leaf (not of the others)", 2, 16, "attach(0, true) = 1; attach(0, true) = 2",
            adds(2, 5, 5, 5, 5, 5), "total(1) = 0; flush(1) = 0; total(2) = 4; flush(2) = 1");
    }

    private static void addToNoLeaf() {
        SAYS.part("promise 3");
        SAYS.holds("false when node is no leaf (the root)", 2, 16, LEAF_AND_INNER, "add(0, 5) = false; total(0) = 0");
        SAYS.holds("false when node is no leaf (an inner node)", 2, 16, LEAF_AND_INNER,
            "add(2, 5) = false; total(2) = 0");
        SAYS.holds("false when node is no leaf (no node yet)", 2, 16, LEAF_AND_INNER,
            "add(3, 5) = false; attach(0, true) = 3; flush(3) = 0");
        SAYS.holds("false when node is no leaf (never a node)", 2, 16, LEAF_AND_INNER,
            Sentences.each("add(#, 5) = false", Sentences.NO_NODES), "flush(1) = 0");
        SAYS.holds("false when node is no leaf (the thirteenth)", 2, 16,
            Sentences.count("attach(0, true) = #", 1, 11), "add(12, 5) = false; add(11, 5) = true");
    }

    private static void addNoValue() {
        SAYS.part("promise 3");
        SAYS.holds("false when [..] value is not 0 .. (the least that is)", 2, 16, LEAF,
            "add(1, 0) = true; flush(1) = 1");
        SAYS.holds("false when [..] value is not .. 31 (the greatest that is)", 2, 16, LEAF,
            "add(1, 31) = true; flush(1) = 1");
        SAYS.holds("false when [..] value is not 0 .. (too small)", 2, 16, LEAF, "add(1, -1) = false; flush(1) = 0");
        SAYS.holds("false when [..] value is not .. 31 (too large)", 2, 16, LEAF, "add(1, 32) = false; flush(1) = 0");
        SAYS.holds("false when [..] value is not 0 .. 31 (far away)", 2, 16, LEAF,
            Sentences.each("add(1, #) = false", Sentences.NO_VALUES), "flush(1) = 0; total(1) = 0");
    }

    private static void addToFullLeaf() {
        SAYS.part("promise 3");
        String full = Sentences.times(48, "add(1, 5) = true");
        SAYS.holds("or journal and open block of the leaf have 48 items together (47: the last is put)", 2, 16, LEAF,
            Sentences.times(47, "add(1, 5) = true"), "add(1, 6) = true; total(1) = 48; sum(1) = 241");
        SAYS.holds("or journal and open block of the leaf have 48 items together (all in the journal)", 2, 16, LEAF,
            full, "add(1, 6) = false; flush(1) = 0; total(1) = 48; sum(1) = 240");
        for (int first = 1; first <= 3; first++) {
            int open = 4 - first;
            SAYS.holds("or journal and open block of the leaf have 48 items together (" + open + " in the open block)",
                2, 16, LEAF, Sentences.times(first, "add(1, 5) = true"), "flush(1) = " + first,
                Sentences.times(48 - first, "add(1, 5) = true"), "total(1) = " + (48 - open), "add(1, 6) = false",
                "flush(1) = " + open, "total(1) = 48; sum(1) = 240; add(1, 6) = false; flush(1) = 0");
        }
        SAYS.holds("or journal and open block of the leaf have 48 items together (fewer after a crash)", 2, 16, LEAF,
            adds(1, 5, 5), "flush(1) = 2", Sentences.times(46, "add(1, 5) = true"),
            "add(1, 6) = false; crash(1) = true", adds(1, 6, 6),
            "add(1, 6) = false; flush(1) = 2; total(1) = 48; sum(1) = 242");
        SAYS.holds("or journal and open block of the leaf have 48 items together (a crash loses none of the journal)",
            2, 16, LEAF, full, "crash(1) = true; add(1, 6) = false; total(1) = 48");
        SAYS.holds("of the leaf (another has room)", 2, 16, LEAF, "attach(0, true) = 2", full,
            "add(1, 6) = false; add(2, 6) = true; flush(2) = 1");
        SAYS.holds("of the leaf (what is reported makes no room)", 2, 16, LEAF, full,
            "report(1) = 1; deliver(1) = 1; add(1, 6) = false; total(0) = 48");
    }

    private static void flush() {
        SAYS.part("promise 4");
        SAYS.holds("Answers how many items it had (none)", 2, 16, LEAF, "flush(1) = 0; total(1) = 0");
        for (int items = 1; items <= 3; items++) {
            SAYS.holds("Writes the open block of a leaf, as it is. Answers how many items it had (" + items + ")",
                2, 16, LEAF, Sentences.times(items, "add(1, 5) = true"), "total(1) = 0", "flush(1) = " + items,
                "total(1) = " + items, "sum(1) = " + 5 * items, "covered(1, 1) = " + items);
        }
        SAYS.holds("Answers how many items it had (none after the fourth)", 2, 16, LEAF, adds(1, 5, 6, 7, 8),
            "flush(1) = 0");
        SAYS.holds("Writes the open block (which is empty then)", 2, 16, LEAF, adds(1, 5, 6),
            "flush(1) = 2; flush(1) = 0; total(1) = 2; sum(1) = 11; crash(1) = true; total(1) = 2");
        SAYS.holds("of a leaf (of no other)", 2, 16, "attach(0, true) = 1; attach(0, true) = 2",
            adds(1, 5), adds(2, 6, 6), "flush(1) = 1; total(2) = 0; flush(2) = 2");
    }

    private static void flushRefused() {
        SAYS.part("promise 4");
        SAYS.holds("-1 when node is no leaf (the root)", 2, 16, LEAF_AND_INNER, "flush(0) = -1");
        SAYS.holds("-1 when node is no leaf (an inner node)", 2, 16, LEAF_AND_INNER, "flush(2) = -1");
        SAYS.holds("-1 when node is no leaf (no node yet)", 2, 16, LEAF_AND_INNER,
            "flush(3) = -1; attach(0, true) = 3; flush(3) = 0");
        SAYS.holds("-1 when node is no leaf (never a node)", 2, 16, LEAF_AND_INNER,
            Sentences.each("flush(#) = -1", Sentences.NO_NODES));
    }

    private static void crashOfLeaf() {
        SAYS.part("promise 5");
        for (int items = 0; items <= 3; items++) {
            SAYS.holds("a leaf loses the items of its open block (" + items + ")", 2, 16, LEAF, adds(1, 5, 6, 7, 8),
                Sentences.times(items, "add(1, 9) = true"), "crash(1) = true; flush(1) = 0; total(1) = 4; sum(1) = 26");
        }
        SAYS.holds("a leaf loses the items of its open block (the next block takes four again)", 2, 16, LEAF,
            adds(1, 5, 6, 7), "crash(1) = true", adds(1, 1, 2, 3), "total(1) = 0", adds(1, 4),
            "total(1) = 4; sum(1) = 10");
        SAYS.holds("a leaf loses the items of its open block (no other leaf does)", 2, 16,
            "attach(0, true) = 1; attach(0, true) = 2", adds(1, 5), adds(2, 6, 6),
            "crash(1) = true; flush(2) = 2; flush(1) = 0");
        SAYS.holds("a leaf (what its parent keeps for it stays)", 2, 16, LEAF, adds(1, 5, 6, 7, 8),
            "report(1) = 1; deliver(1) = 1; crash(1) = true; total(0) = 4; covered(0, 1) = 4");
        SAYS.holds("Numbers of reports [..] stay (a leaf's)", 2, 16, LEAF,
            "report(1) = 1; report(1) = 2; crash(1) = true", adds(1, 5, 6, 7, 8),
            "report(1) = 3; deliver(2) = 1; deliver(3) = 1; total(0) = 4; deliver(1) = 0");
        SAYS.holds("messages on their way stay (a leaf's)", 2, 16, LEAF, adds(1, 5, 6, 7, 8),
            "report(1) = 1; crash(1) = true; onTheWay() = 1; deliver(1) = 1; total(0) = 4");
    }

    private static void crashOfOtherNode() {
        SAYS.part("promise 5");
        String kept = "report(2) = 1; deliver(1) = 1; report(3) = 2; deliver(2) = 1; total(1) = 9";
        String tree = "attach(0, false) = 1; attach(1, true) = 2; attach(1, true) = 3; "
            + adds(2, 5, 6, 7, 8) + "; " + adds(3, 9, 9, 9, 9, 9) + "; flush(3) = 1; " + kept;
        SAYS.holds("another node keeps nothing for any child (an inner node)", 2, 16, tree,
            "crash(1) = true; total(1) = 0; sum(1) = 0; covered(1, 2) = 0; covered(1, 3) = 0",
            "extreme(1, true) = -1; top(1, 0) = -1");
        SAYS.holds("another node keeps nothing for any child (the root)", 2, 16, tree,
            "report(1) = 3; deliver(3) = 1; total(0) = 9; crash(0) = true; total(0) = 0; digestSize(0) = 0",
            "total(1) = 9");
        SAYS.holds("another node keeps nothing (and had nothing)", 2, 16, LEAF_AND_INNER,
            "crash(2) = true; crash(0) = true; total(2) = 0; total(0) = 0");
        SAYS.holds("keeps nothing for any child (an older message is kept again)", 2, 16, tree,
            "report(2) = 3; report(2) = 4; deliver(4) = 1; crash(1) = true; deliver(3) = 1; total(1) = 4");
        SAYS.holds("keeps nothing for any child (one child's next message counts alone)", 2, 16, tree,
            "crash(1) = true; report(3) = 3; deliver(3) = 1; total(1) = 5; covered(1, 2) = 0; covered(1, 3) = 5",
            "extreme(1, false) = 9");
        SAYS.holds("Numbers of reports [..] stay (an inner node's)", 2, 16, tree,
            "report(1) = 3; report(1) = 4; crash(1) = true; report(1) = 5; deliver(4) = 1; total(0) = 9",
            "deliver(5) = 1; total(0) = 0; deliver(3) = 0");
        SAYS.holds("Numbers of reports [..] stay (those of the children)", 2, 16, tree,
            "report(2) = 3; crash(1) = true; report(2) = 4; deliver(4) = 1; deliver(3) = 0");
        SAYS.holds("messages on their way stay (an inner node's)", 2, 16, tree,
            "report(1) = 3; crash(1) = true; onTheWay() = 1; deliver(3) = 1; total(0) = 9; total(1) = 0");
        SAYS.holds("messages on their way stay (those to an inner node)", 2, 16, tree,
            "report(2) = 3; crash(1) = true; onTheWay() = 1; deliver(3) = 1; total(1) = 4");
    }

    private static void crashLeavesTheRest() {
        SAYS.part("promise 5");
        String tree = "attach(0, false) = 1; attach(1, true) = 2; attach(0, false) = 3; attach(3, true) = 4; "
            + adds(2, 5, 6, 7, 8, 9) + "; " + adds(4, 1, 2, 3, 4, 5) + "; report(2) = 1; deliver(1) = 1; "
            + "report(4) = 2; deliver(2) = 1; report(1) = 3; deliver(3) = 1; report(3) = 4; deliver(4) = 1; total(0) = 8";
        SAYS.holds("A node goes down (its parent keeps what it kept for it)", 2, 16, tree,
            "crash(1) = true; total(0) = 8; covered(0, 2) = 4");
        SAYS.holds("A node goes down (another node of the same parent keeps its own)", 2, 16, tree,
            "crash(1) = true; total(3) = 4");
        SAYS.holds("A node goes down (what other nodes keep has its version still)", 2, 16, tree,
            "report(3) = 5; report(3) = 6; deliver(6) = 1; crash(1) = true; deliver(5) = 0; total(0) = 8");
        SAYS.holds("A node goes down (what other nodes keep for other children stays)", 2, 16, tree,
            "crash(1) = true; report(3) = 5; deliver(5) = 1; total(0) = 8; covered(0, 2) = 4");
        SAYS.holds("A node goes down (its children keep theirs)", 2, 16, tree,
            "crash(0) = true; total(1) = 4; total(3) = 4");
        SAYS.holds("A node goes down (its leaves keep their items)", 2, 16, tree,
            "crash(1) = true; crash(0) = true; total(2) = 4; flush(2) = 1; total(4) = 4; flush(4) = 1");
        SAYS.holds("False when there is no such node (no node yet)", 2, 16, LEAF_AND_INNER,
            "crash(3) = false; crash(2) = true");
        SAYS.holds("False when there is no such node (never a node)", 2, 16, LEAF_AND_INNER,
            Sentences.each("crash(#) = false", Sentences.NO_NODES));
    }

    private static void report() {
        SAYS.part("promise 6");
        SAYS.holds("The node reports to its parent. Answers the number of the message (a leaf without items)", 2, 16,
            LEAF, "report(1) = 1; onTheWay() = 1; deliver(1) = 1; total(0) = 0");
        SAYS.holds("The node reports to its parent (an inner node that keeps nothing)", 2, 16, LEAF_AND_INNER,
            "report(2) = 1; onTheWay() = 1; deliver(1) = 1; total(0) = 0");
        SAYS.holds("The node reports (nothing arrives by that)", 2, 16, LEAF, adds(1, 5, 6, 7, 8),
            "report(1) = 1; total(0) = 0");
        SAYS.holds("The node reports (the twelfth node too)", 2, 16, Sentences.count("attach(0, true) = #", 1, 11),
            "report(11) = 1; deliver(1) = 1");
    }

    private static void reportRefused() {
        SAYS.part("promise 6");
        SAYS.holds("-1 when there is no such node (no node yet)", 2, 16, LEAF_AND_INNER,
            "report(3) = -1; onTheWay() = 0; report(1) = 1");
        SAYS.holds("-1 when there is no such node (never a node)", 2, 16, LEAF_AND_INNER,
            Sentences.each("report(#) = -1", Sentences.NO_NODES), "onTheWay() = 0; report(1) = 1");
        SAYS.holds("-1 when [..] it is the root", 2, 16, LEAF_AND_INNER,
            "report(0) = -1; onTheWay() = 0; report(1) = 1");
        SAYS.holds("-1 when [..] 12 messages are on their way (11: the twelfth comes to be)", 2, 16, LEAF,
            Sentences.count("report(1) = #", 1, 11), "report(1) = 12; onTheWay() = 12");
        SAYS.holds("-1 when [..] 12 messages are on their way (a leaf reports)", 2, 16, LEAF, TWELVE_ON_THE_WAY,
            "report(1) = -1; onTheWay() = 12; drop(1) = true; report(1) = 13");
        SAYS.holds("-1 when [..] 12 messages are on their way (an inner node reports)", 2, 16, LEAF_AND_INNER,
            TWELVE_ON_THE_WAY, "report(2) = -1; onTheWay() = 12; deliver(1) = 1; report(2) = 13");
        SAYS.holds("-1 when [..] 12 messages are on their way (copies among them)", 2, 16, LEAF, "report(1) = 1",
            Sentences.count("copy(1) = #", 2, 12), "report(1) = -1; onTheWay() = 12");
    }

    private static void copy() {
        SAYS.part("promise 7");
        String twoReports = adds(1, 5, 6, 7, 8) + "; report(1) = 1; " + adds(1, 9, 9, 9, 9) + "; report(1) = 2";
        SAYS.holds("A second message [..] comes to be. Answers its number", 2, 16, LEAF, twoReports,
            "copy(1) = 3; onTheWay() = 3; deliver(3) = 1; onTheWay() = 2; deliver(1) = 0; onTheWay() = 1");
        SAYS.holds("with the same node", 2, 16, "attach(0, false) = 1; attach(1, true) = 2; attach(0, true) = 3",
            adds(2, 5, 6, 7, 8), "report(2) = 1; copy(1) = 2; deliver(2) = 1; total(1) = 4; total(0) = 0");
        SAYS.holds("with the same [..] version (the copy of an older one is not kept)", 2, 16, LEAF, twoReports,
            "copy(1) = 3; deliver(2) = 1; deliver(3) = 0; total(0) = 8");
        SAYS.holds("with the same [..] version (a newer one is kept after the copy of an older one)", 2, 16, LEAF,
            twoReports, "copy(1) = 3; deliver(3) = 1; total(0) = 4; deliver(2) = 1; total(0) = 8; deliver(1) = 0");
        SAYS.holds("with the same [..] version (nor that of the kept one)", 2, 16, LEAF, twoReports,
            "copy(2) = 3; deliver(2) = 1; deliver(3) = 0; total(0) = 8");
        SAYS.holds("with the same [..] version (the next report is newer)", 2, 16, LEAF, "report(1) = 1; copy(1) = 2",
            "report(1) = 3; deliver(2) = 1; deliver(3) = 1; deliver(1) = 0");
        SAYS.holds("with the same [..] summary (not with that of now)", 2, 16, LEAF, twoReports,
            "copy(1) = 3; drop(1) = true; deliver(3) = 1; total(0) = 4; sum(0) = 26; extreme(0, true) = 8",
            "covered(0, 1) = 4");
        SAYS.holds("A second message (a copy of a copy)", 2, 16, LEAF, twoReports,
            "copy(1) = 3; drop(1) = true; copy(3) = 4; drop(3) = true; deliver(4) = 1; total(0) = 4");
        SAYS.holds("A second message (the first is still on its way)", 2, 16, LEAF, twoReports,
            "copy(1) = 3; drop(3) = true; deliver(1) = 1; total(0) = 4");
    }

    private static void copyRefused() {
        SAYS.part("promise 7");
        SAYS.holds("-1 when message is not on its way (it has not come to be)", 2, 16, LEAF,
            "report(1) = 1; copy(2) = -1; onTheWay() = 1; report(1) = 2");
        SAYS.holds("-1 when message is not on its way (never will)", 2, 16, LEAF, "report(1) = 1",
            Sentences.each("copy(#) = -1", Sentences.NO_MESSAGES), "onTheWay() = 1; report(1) = 2");
        SAYS.holds("-1 when message is not on its way (dropped)", 2, 16, LEAF,
            "report(1) = 1; drop(1) = true; copy(1) = -1; onTheWay() = 0; report(1) = 2");
        SAYS.holds("-1 when message is not on its way (arrived and kept)", 2, 16, LEAF,
            "report(1) = 1; deliver(1) = 1; copy(1) = -1; onTheWay() = 0; report(1) = 2");
        SAYS.holds("-1 when message is not on its way (arrived and not kept)", 2, 16, LEAF,
            "report(1) = 1; copy(1) = 2; deliver(1) = 1; deliver(2) = 0; copy(2) = -1; onTheWay() = 0",
            "report(1) = 3");
        SAYS.holds("-1 when [..] 12 messages are (11: the twelfth comes to be)", 2, 16, LEAF,
            Sentences.count("report(1) = #", 1, 11), "copy(11) = 12; onTheWay() = 12");
        SAYS.holds("-1 when [..] 12 messages are", 2, 16, LEAF, TWELVE_ON_THE_WAY,
            Sentences.count("copy(#) = -1", 1, 12), "onTheWay() = 12; drop(1) = true; copy(2) = 13");
    }

    private static void drop() {
        SAYS.part("promise 8");
        SAYS.holds("The message is lost: it is on its way no more", 2, 16, LEAF, adds(1, 5, 6, 7, 8),
            "report(1) = 1; report(1) = 2; drop(1) = true; onTheWay() = 1; deliver(1) = -1; copy(1) = -1",
            "total(0) = 0");
        SAYS.holds("The message is lost (no other one)", 2, 16, LEAF, adds(1, 5, 6, 7, 8),
            "report(1) = 1; copy(1) = 2; drop(1) = true; deliver(2) = 1; total(0) = 4");
        SAYS.holds("The message is lost (what is kept stays)", 2, 16, LEAF, adds(1, 5, 6, 7, 8),
            "report(1) = 1; copy(1) = 2; deliver(1) = 1; drop(2) = true; total(0) = 4");
        SAYS.holds("The message is lost (its version is not given again)", 2, 16, LEAF,
            "report(1) = 1; report(1) = 2; drop(2) = true; report(1) = 3; deliver(3) = 1; deliver(1) = 0");
        SAYS.holds("The message is lost (the next report is newer than all before)", 2, 16, LEAF,
            "report(1) = 1; report(1) = 2; drop(1) = true; report(1) = 3; deliver(2) = 1; deliver(3) = 1");
    }

    private static void dropRefused() {
        SAYS.part("promise 8");
        SAYS.holds("False when it is not on its way (it has not come to be)", 2, 16, LEAF,
            "report(1) = 1; drop(2) = false; report(1) = 2; drop(2) = true");
        SAYS.holds("False when it is not on its way (never will)", 2, 16, LEAF, "report(1) = 1",
            Sentences.each("drop(#) = false", Sentences.NO_MESSAGES), "onTheWay() = 1");
        SAYS.holds("False when it is not on its way (dropped)", 2, 16, LEAF,
            "report(1) = 1; report(1) = 2; drop(1) = true; drop(1) = false; onTheWay() = 1");
        SAYS.holds("False when it is not on its way (arrived and kept)", 2, 16, LEAF, adds(1, 5, 6, 7, 8),
            "report(1) = 1; deliver(1) = 1; drop(1) = false; total(0) = 4");
        SAYS.holds("False when it is not on its way (arrived and not kept)", 2, 16, LEAF,
            "report(1) = 1; copy(1) = 2; deliver(1) = 1; deliver(2) = 0; drop(2) = false");
    }

    private static void deliver() {
        SAYS.part("promise 9");
        SAYS.holds("The message arrives: it is on its way no more (when it is kept)", 2, 16, LEAF,
            "report(1) = 1; deliver(1) = 1; onTheWay() = 0; deliver(1) = -1; drop(1) = false; copy(1) = -1");
        SAYS.holds("The message arrives: it is on its way no more (when it is not kept)", 2, 16, LEAF,
            "report(1) = 1; copy(1) = 2; deliver(1) = 1; deliver(2) = 0; onTheWay() = 0; deliver(2) = -1",
            "drop(2) = false");
        SAYS.holds("if it keeps none for it", 2, 16, LEAF, adds(1, 5, 6, 7, 8),
            "report(1) = 1; deliver(1) = 1; total(0) = 4");
        SAYS.holds("if it keeps none for it (whatever the version)", 2, 16, LEAF,
            Sentences.count("report(1) = #; drop(#) = true", 1, 9), "report(1) = 10; deliver(10) = 1");
        SAYS.holds("or one with a smaller version", 2, 16, LEAF, adds(1, 5, 6, 7, 8), "report(1) = 1; deliver(1) = 1",
            adds(1, 9, 9, 9, 9), "report(1) = 2; deliver(2) = 1; total(0) = 8");
        SAYS.holds("0 when not (the kept one has the same version)", 2, 16, LEAF,
            "report(1) = 1; copy(1) = 2; deliver(2) = 1; deliver(1) = 0");
        SAYS.holds("0 when not (the kept one has a greater version)", 2, 16, LEAF, adds(1, 5, 6, 7, 8),
            "report(1) = 1", adds(1, 9, 9, 9, 9),
            "report(1) = 2; deliver(2) = 1; deliver(1) = 0; total(0) = 8; sum(0) = 62");
        SAYS.holds("with a smaller version (the version of one without items counts too)", 2, 16,
            "attach(0, false) = 1; attach(1, true) = 2", adds(2, 5, 6, 7, 8),
            "report(2) = 1; deliver(1) = 1; report(1) = 2; crash(1) = true; report(1) = 3",
            "deliver(3) = 1; total(0) = 0; deliver(2) = 0; total(0) = 0");
        SAYS.holds("keeps its summary (one without items takes the place of one that has some)", 2, 16,
            "attach(0, false) = 1; attach(1, true) = 2", adds(2, 5, 6, 7, 8),
            "report(2) = 1; deliver(1) = 1; report(1) = 2; deliver(2) = 1; total(0) = 4; crash(1) = true",
            "report(1) = 3; deliver(3) = 1; total(0) = 0; extreme(0, true) = -1; covered(0, 2) = 0");
        SAYS.holds("with a smaller version (255 and 256 too)", 2, 16, LEAF,
            Sentences.count("report(1) = #; drop(#) = true", 1, 244), Sentences.count("report(1) = #", 245, 256),
            "deliver(255) = 1; deliver(256) = 1; deliver(254) = 0; onTheWay() = 9");
    }

    private static void deliverToEachParent() {
        SAYS.part("promise 9");
        SAYS.holds("the parent of its node keeps its summary and version for that child (for no other)", 2, 16,
            "attach(0, true) = 1; attach(0, true) = 2", adds(1, 5, 6, 7, 8), adds(2, 9, 9, 9, 9),
            "report(1) = 1; report(1) = 2; report(2) = 3; deliver(2) = 1; deliver(3) = 1; total(0) = 8",
            "deliver(1) = 0");
        SAYS.holds("the parent of its node (an inner node)", 2, 16, "attach(0, false) = 1; attach(1, true) = 2",
            adds(2, 5, 6, 7, 8), "report(2) = 1; deliver(1) = 1; total(1) = 4; total(0) = 0");
        SAYS.holds("the parent of its node (in a chain each by its own report)", 2, 16,
            "attach(0, false) = 1; attach(1, false) = 2; attach(2, true) = 3", adds(3, 5, 6, 7, 8),
            "report(3) = 1; deliver(1) = 1; report(2) = 2; deliver(2) = 1; total(1) = 4; total(0) = 0",
            "report(1) = 3; deliver(3) = 1; total(0) = 4; covered(0, 3) = 4");
        SAYS.holds("the parent of its node (in a chain of 12 nodes)", 2, 16,
            "attach(0, false) = 1; attach(1, false) = 2; attach(2, false) = 3; attach(3, false) = 4",
            "attach(4, false) = 5; attach(5, false) = 6; attach(6, false) = 7; attach(7, false) = 8",
            "attach(8, false) = 9; attach(9, false) = 10; attach(10, true) = 11", adds(11, 5, 6, 7, 8),
            "report(11) = 1; deliver(1) = 1; report(10) = 2; deliver(2) = 1; report(9) = 3; deliver(3) = 1",
            "report(8) = 4; deliver(4) = 1; report(7) = 5; deliver(5) = 1; report(6) = 6; deliver(6) = 1",
            "report(5) = 7; deliver(7) = 1; report(4) = 8; deliver(8) = 1; report(3) = 9; deliver(9) = 1",
            "report(2) = 10; deliver(10) = 1; total(0) = 0; report(1) = 11; deliver(11) = 1; total(0) = 4",
            "covered(0, 11) = 4");
        SAYS.holds("the parent of its node keeps [..] for that child (for each of eleven)", 2, 16,
            Sentences.count("attach(0, true) = #", 1, 11), Sentences.count("add(#, #) = true; flush(#) = 1", 1, 11),
            Sentences.count("report(#) = #; deliver(#) = 1", 1, 11), "total(0) = 11; sum(0) = 66",
            Sentences.count("covered(0, #) = 1", 1, 11));
        SAYS.holds("keeps its summary (which does not grow with the child's)", 2, 16, LEAF, adds(1, 5, 6, 7, 8),
            "report(1) = 1; deliver(1) = 1", adds(1, 9, 9, 9, 9),
            "total(0) = 4; extreme(0, true) = 8; digestSize(0) = 4");
        SAYS.holds("keeps its summary (which does not change with a copy that arrives)", 2, 16, LEAF,
            adds(1, 5, 6, 7, 8),
            "report(1) = 1; copy(1) = 2; deliver(1) = 1; deliver(2) = 0; total(0) = 4; estimate(0, 5) = 0",
            "covered(0, 1) = 4");
    }

    private static void deliverRefused() {
        SAYS.part("promise 9");
        SAYS.holds("-1 when message is not on its way (it has not come to be)", 2, 16, LEAF,
            "report(1) = 1; deliver(2) = -1; onTheWay() = 1; report(1) = 2; deliver(2) = 1");
        SAYS.holds("-1 when message is not on its way (never will)", 2, 16, LEAF, "report(1) = 1",
            Sentences.each("deliver(#) = -1", Sentences.NO_MESSAGES), "onTheWay() = 1; total(0) = 0");
        SAYS.holds("-1 when message is not on its way (dropped)", 2, 16, LEAF, adds(1, 5, 6, 7, 8),
            "report(1) = 1; drop(1) = true; deliver(1) = -1; total(0) = 0");
        SAYS.holds("-1 when message is not on its way (arrived and kept)", 2, 16, LEAF,
            "report(1) = 1; deliver(1) = 1; deliver(1) = -1");
        SAYS.holds("-1 when message is not on its way (arrived and not kept)", 2, 16, LEAF,
            "report(1) = 1; copy(1) = 2; deliver(2) = 1; deliver(1) = 0; deliver(1) = -1");
        SAYS.holds("-1 when message is not on its way (arrived, and its parent has crashed)", 2, 16, LEAF,
            adds(1, 5, 6, 7, 8),
            "report(1) = 1; deliver(1) = 1; crash(0) = true; deliver(1) = -1; total(0) = 0");
    }

    private static void onTheWay() {
        SAYS.part("promise 10");
        SAYS.holds("How many messages are on their way (none)", 2, 16, LEAF, "onTheWay() = 0");
        SAYS.holds("How many messages are on their way (to 12)", 2, 16, LEAF,
            Sentences.count("report(1) = #; onTheWay() = #", 1, 12));
        SAYS.holds("How many messages are on their way (copies too)", 2, 16, LEAF, "report(1) = 1",
            Sentences.count("copy(1) = #; onTheWay() = #", 2, 12));
        SAYS.holds("How many messages are on their way (none again when all are lost)", 2, 16, LEAF,
            TWELVE_ON_THE_WAY,
            Sentences.count("drop(#) = true", 1, 11), "onTheWay() = 1; drop(12) = true; onTheWay() = 0");
        SAYS.holds("How many messages are on their way (none again when all have arrived)", 2, 16, LEAF,
            TWELVE_ON_THE_WAY,
            "deliver(12) = 1; onTheWay() = 11", Sentences.count("deliver(#) = 0", 1, 11), "onTheWay() = 0");
        SAYS.holds("How many messages are on their way (a crash changes nothing)", 2, 16, LEAF,
            "report(1) = 1; copy(1) = 2",
            "crash(1) = true; onTheWay() = 2; crash(0) = true; onTheWay() = 2");
    }
}
