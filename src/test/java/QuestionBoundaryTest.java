/** Each sentence of promises 11 to 19 that names a boundary case, with a run of its own. */
public final class QuestionBoundaryTest {
    private static final Sentences SAYS = new Sentences();
    private static final String LEAF = "attach(0, true) = 1";
    /** Leaf 1 under the root, and leaf 3 under the inner node 2. */
    private static final String TREE = "attach(0, true) = 1; attach(0, false) = 2; attach(2, true) = 3";
    /** What a call answers for a node that is not there, before and after a node has items. */
    private static final String ITEMS = "add(1, 5) = true; flush(1) = 1";
    /** 480 items of the greatest value in the root. */
    private static final String ALL_OF_TEN_LEAVES = tenLeaves("31", "31");

    private QuestionBoundaryTest() {}

    public static void main(String[] args) {
        total();
        sum();
        extreme();
        extremeWithoutItems();
        covered();
        coveredRefused();
        estimate();
        estimateRefused();
        top();
        topWithoutCounter();
        digestSize();
        below();
        belowOfWideRanges();
        belowRefused();
        quantile();
        quantileOfWideRanges();
        quantileRefused();
        SAYS.end();
    }

    private static String adds(int leaf, int... values) {
        return Sentences.adds(leaf, values);
    }

    private static String journal(int leaf, int... values) {
        return adds(leaf, values) + "; flush(" + leaf + ") = " + values.length % 4;
    }

    /** By 510 calls the root has 240 items of each value, the one from five leaves, the other from five more. */
    private static String tenLeaves(String first, String second) {
        StringBuilder rows = new StringBuilder(Sentences.count("attach(0, true) = #", 1, 10));
        for (int leaf = 1; leaf <= 10; leaf++) {
            String value = leaf <= 5 ? first : second;
            rows.append("; ").append(Sentences.times(48, "add(" + leaf + ", " + value + ") = true"));
        }
        return rows + "; " + Sentences.count("report(#) = #; deliver(#) = 1", 1, 10);
    }

    /** The question, with a '#' for the node, is refused for each node that is not there. */
    private static void noSuchNode(String question) {
        SAYS.holds("-1 when there is no such node (no node yet)", 2, 16, TREE, ITEMS,
            question.replace("#", "4") + " = -1",
            "attach(0, true) = 4", question.replace("#", "5") + " = -1");
        SAYS.holds("-1 when there is no such node (never a node)", 2, 16, TREE, ITEMS,
            Sentences.each(question + " = -1", Sentences.NO_NODES));
        SAYS.holds("-1 when there is no such node (the thirteenth)", 2, 16,
            Sentences.count("attach(0, true) = #", 1, 11),
            ITEMS, question.replace("#", "12") + " = -1");
    }

    private static void total() {
        SAYS.part("promise 11");
        SAYS.holds("The number n of the node's summary (none)", 2, 16, TREE,
            "total(0) = 0; total(1) = 0; total(2) = 0");
        SAYS.holds("The number n of the node's summary (without the open block)", 2, 16, TREE,
            adds(1, 5, 5, 5), "total(1) = 0; add(1, 5) = true; total(1) = 4");
        SAYS.holds("The number n of the node's summary (of a full leaf)", 2, 16, TREE,
            Sentences.times(48, "add(1, 0) = true"), "total(1) = 48; report(1) = 1; deliver(1) = 1; total(0) = 48");
        SAYS.holds("The number n of the node's summary (of many leaves)", 2, 16, ALL_OF_TEN_LEAVES, "total(0) = 480");
        noSuchNode("total(#)");
    }

    private static void sum() {
        SAYS.part("promise 12");
        SAYS.holds("The sum of the node's summary (none)", 2, 16, TREE, "sum(0) = 0; sum(1) = 0; sum(2) = 0");
        SAYS.holds("The sum of the node's summary (0 with items)", 2, 16, TREE, journal(1, 0, 0),
            "sum(1) = 0; total(1) = 2");
        SAYS.holds("The sum of the node's summary (without the open block)", 2, 16, TREE,
            adds(1, 5, 5, 5), "sum(1) = 0; add(1, 5) = true; sum(1) = 20");
        SAYS.holds("The sum of the node's summary (of many leaves)", 2, 16, ALL_OF_TEN_LEAVES, "sum(0) = 14880");
        noSuchNode("sum(#)");
    }

    private static void extreme() {
        SAYS.part("promise 13");
        SAYS.holds("The least item (or the greatest) (one item is both)", 2, 16, LEAF, journal(1, 9),
            "extreme(1, false) = 9; extreme(1, true) = 9");
        SAYS.holds("The least item (or the greatest) (0 is an item)", 2, 16, LEAF, journal(1, 0),
            "extreme(1, false) = 0; extreme(1, true) = 0");
        SAYS.holds("The least item (or the greatest) (31 is an item)", 2, 16, LEAF, journal(1, 31),
            "extreme(1, false) = 31; extreme(1, true) = 31");
        SAYS.holds("The least item (or the greatest) (of all values)", 2, 16, LEAF,
            Sentences.count("add(1, #) = true", 0, 31),
            "extreme(1, false) = 0; extreme(1, true) = 31");
        SAYS.holds("The least item (or the greatest) (though its counter is gone)", 1, 2, LEAF,
            journal(1, 30, 7, 9, 8, 8),
            "estimate(1, 30) = 0; extreme(1, false) = 7; extreme(1, true) = 30");
        noSuchNode("extreme(#, false)");
        noSuchNode("extreme(#, true)");
    }

    private static void extremeWithoutItems() {
        String none = "extreme(#, false) = -1; extreme(#, true) = -1";
        SAYS.holds("-1 when it has no items (a new leaf)", 2, 16, TREE, none.replace("#", "1"));
        SAYS.holds("-1 when it has no items (an open block only)", 2, 16, TREE, adds(1, 5, 6, 7),
            none.replace("#", "1"));
        SAYS.holds("-1 when it has no items (an inner node that keeps nothing)", 2, 16, TREE, none.replace("#", "2"));
        SAYS.holds("-1 when it has no items (the root that keeps nothing)", 2, 16, TREE, none.replace("#", "0"));
        SAYS.holds("-1 when it has no items (a summary without items is kept)", 2, 16, TREE,
            "report(1) = 1; deliver(1) = 1", none.replace("#", "0"));
        SAYS.holds("-1 when it has no items (after a crash)", 2, 16, TREE, journal(1, 7),
            "report(1) = 1; deliver(1) = 1; extreme(0, true) = 7; crash(0) = true", none.replace("#", "0"));
    }

    private static void covered() {
        SAYS.part("promise 14");
        SAYS.holds("How many items of a leaf are in the node's summary (of itself)", 2, 16, TREE,
            adds(1, 5, 5, 5, 5, 5), "covered(1, 1) = 4; flush(1) = 1; covered(1, 1) = 5");
        SAYS.holds("How many items of a leaf are in the node's summary (none)", 2, 16, TREE, journal(3, 5),
            "covered(0, 1) = 0; covered(0, 3) = 0; covered(2, 3) = 0; covered(1, 1) = 0");
        SAYS.holds("How many items of a leaf are in the node's summary (those that it keeps, not those of now)",
            2, 16, TREE, journal(3, 5), "report(3) = 1; deliver(1) = 1", journal(3, 5),
            "covered(2, 3) = 1; covered(3, 3) = 2");
        SAYS.holds("How many items of a leaf are in the node's summary (a leaf elsewhere)", 2, 16, TREE,
            journal(1, 5), "covered(2, 1) = 0; covered(3, 1) = 0; report(1) = 1; deliver(1) = 1; covered(2, 1) = 0");
        SAYS.holds("How many items of a leaf are in the node's summary (through an inner node)", 2, 16, TREE,
            journal(1, 5), journal(3, 6, 6), "report(3) = 1; deliver(1) = 1; report(2) = 2; deliver(2) = 1",
            "report(1) = 3; deliver(3) = 1; covered(0, 1) = 1; covered(0, 3) = 2; covered(2, 3) = 2");
        SAYS.holds("How many items of a leaf are in the node's summary (of the twelfth node)", 2, 16,
            Sentences.count("attach(0, true) = #", 1, 11), journal(11, 5), "covered(11, 11) = 1; covered(0, 11) = 0",
            "report(11) = 1; deliver(1) = 1; covered(0, 11) = 1; covered(0, 10) = 0");
        SAYS.holds("How many items of a leaf are in the node's summary (48)", 2, 16, TREE,
            Sentences.times(48, "add(1, 5) = true"), "covered(1, 1) = 48");
    }

    private static void coveredRefused() {
        noSuchNode("covered(#, 1)");
        SAYS.holds("-1 when [..] leaf is no leaf (the root)", 2, 16, TREE, ITEMS,
            "covered(0, 0) = -1; covered(1, 0) = -1; covered(2, 0) = -1");
        SAYS.holds("-1 when [..] leaf is no leaf (an inner node)", 2, 16, TREE, ITEMS,
            "covered(0, 2) = -1; covered(1, 2) = -1; covered(2, 2) = -1");
        SAYS.holds("-1 when [..] leaf is no leaf (no node yet)", 2, 16, TREE, ITEMS,
            "covered(0, 4) = -1; covered(1, 4) = -1; attach(0, true) = 4; covered(0, 4) = 0");
        SAYS.holds("-1 when [..] leaf is no leaf (never a node)", 2, 16, TREE, ITEMS,
            Sentences.each("covered(1, #) = -1", Sentences.NO_NODES));
        SAYS.holds("-1 when there is no such node, or leaf is no leaf (both)", 2, 16, TREE, ITEMS,
            Sentences.each("covered(#, #) = -1", Sentences.NO_NODES), "covered(4, 4) = -1");
    }

    private static void estimate() {
        SAYS.part("promise 15");
        SAYS.holds("The count of the counter of value (the least and the greatest value)", 2, 16, LEAF,
            adds(1, 0, 0, 31, 0), "estimate(1, 0) = 3; estimate(1, 31) = 1");
        SAYS.holds("The count of the counter of value (48)", 1, 16, LEAF, Sentences.times(48, "add(1, 7) = true"),
            "estimate(1, 7) = 48");
        SAYS.holds("0 when it has none (the value never came)", 2, 16, LEAF, journal(1, 5),
            Sentences.count("estimate(1, #) = 0", 0, 4), Sentences.count("estimate(1, #) = 0", 6, 31));
        SAYS.holds("0 when it has none (its counter is gone)", 1, 16, LEAF, journal(1, 5, 6), "estimate(1, 5) = 0");
        SAYS.holds("0 when it has none (it got none)", 1, 16, LEAF, journal(1, 5, 6), "estimate(1, 6) = 0");
        SAYS.holds("0 when it has none (no items)", 2, 16, TREE,
            "estimate(0, 5) = 0; estimate(1, 5) = 0; estimate(2, 5) = 0");
        SAYS.holds("0 when it has none (in the open block only)", 2, 16, LEAF, adds(1, 5, 5, 5),
            "estimate(1, 5) = 0");
    }

    private static void estimateRefused() {
        noSuchNode("estimate(#, 5)");
        SAYS.holds("-1 when [..] value is not 0 .. (too small)", 2, 16, LEAF, ITEMS,
            "estimate(1, -1) = -1; estimate(1, 0) = 0");
        SAYS.holds("-1 when [..] value is not .. 31 (too large)", 2, 16, LEAF, ITEMS,
            "estimate(1, 32) = -1; estimate(1, 31) = 0");
        SAYS.holds("-1 when [..] value is not 0 .. 31 (far away)", 2, 16, LEAF, ITEMS,
            Sentences.each("estimate(1, #) = -1; estimate(0, #) = -1", Sentences.NO_VALUES));
        SAYS.holds("-1 when there is no such node or value is not 0 .. 31 (both)", 2, 16, LEAF, ITEMS,
            Sentences.each("estimate(2, #) = -1", Sentences.NO_VALUES));
    }

    private static void top() {
        SAYS.part("promise 16");
        SAYS.holds("the i-th (from 0 on) [..] by falling counts", 6, 16, LEAF, adds(1, 3, 9, 9, 20), adds(1, 9, 20),
            "flush(1) = 2; top(1, 0) = 9; top(1, 1) = 20; top(1, 2) = 3");
        SAYS.holds("equal ones by rising values", 6, 16, LEAF, adds(1, 20, 3, 31, 0),
            "top(1, 0) = 0; top(1, 1) = 3; top(1, 2) = 20; top(1, 3) = 31; top(1, 4) = -1");
        SAYS.holds("equal ones by rising values (between others)", 6, 16, LEAF, adds(1, 20, 20, 3, 3),
            adds(1, 9, 9, 9, 1),
            "top(1, 0) = 9; top(1, 1) = 3; top(1, 2) = 20; top(1, 3) = 1; top(1, 4) = -1");
        SAYS.holds("the i-th (the sixth of six)", 6, 16, LEAF, journal(1, 1, 2, 3, 4, 5, 6),
            "top(1, 5) = 6; top(1, 0) = 1; top(1, 6) = -1");
        SAYS.holds("the i-th (the only one)", 1, 16, LEAF, journal(1, 0), "top(1, 0) = 0; top(1, 1) = -1");
        SAYS.holds("the counters of the node's summary (merged)", 2, 16, LEAF, "attach(0, true) = 2",
            journal(1, 8, 7),
            journal(2, 7, 8), "report(1) = 1; deliver(1) = 1; report(2) = 2; deliver(2) = 1",
            "top(0, 0) = 7; top(0, 1) = 8");
    }

    private static void topWithoutCounter() {
        noSuchNode("top(#, 0)");
        SAYS.holds("-1 when there is no such counter (no items)", 6, 16, TREE,
            "top(0, 0) = -1; top(1, 0) = -1; top(2, 0) = -1");
        SAYS.holds("-1 when there is no such counter (i is less than 0)", 6, 16, LEAF, journal(1, 5, 6),
            "top(1, -1) = -1; top(1, -2) = -1; top(1, MIN) = -1");
        SAYS.holds("-1 when there is no such counter (i is their number)", 6, 16, LEAF, journal(1, 5, 6),
            "top(1, 1) = 6; top(1, 2) = -1");
        SAYS.holds("-1 when there is no such counter (i is more than their number)", 6, 16, LEAF, journal(1, 5, 6),
            Sentences.count("top(1, #) = -1", 2, 40), "top(1, MAX) = -1; top(1, 256) = -1");
        SAYS.holds("-1 when there is no such counter (all are gone)", 1, 16, LEAF, journal(1, 5, 6),
            "top(1, 0) = -1; total(1) = 2");
    }

    private static void digestSize() {
        SAYS.part("promise 17");
        SAYS.holds("How many ranges have a count of more than 0 (none)", 2, 2, TREE,
            "digestSize(0) = 0; digestSize(1) = 0; digestSize(2) = 0");
        SAYS.holds("How many ranges have a count of more than 0 (the first and the last value)", 2, 16, LEAF,
            journal(1, 0, 31), "digestSize(1) = 2");
        SAYS.holds("How many ranges have a count of more than 0 (one with many)", 2, 2, LEAF,
            Sentences.times(48, "add(1, 31) = true"), "digestSize(1) = 1");
        SAYS.holds("How many ranges have a count of more than 0 (range 1 too)", 2, 2, LEAF, journal(1, 9, 9, 20),
            "digestSize(1) = 2");
        SAYS.holds("How many ranges have a count of more than 0 (15 single values)", 2, 16, LEAF,
            Sentences.count("add(1, #) = true", 1, 15), "flush(1) = 3; digestSize(1) = 15");
        SAYS.holds("How many ranges have a count of more than 0 (without the open block)", 2, 16, LEAF,
            adds(1, 5, 6, 7), "digestSize(1) = 0; flush(1) = 3; digestSize(1) = 3");
        SAYS.holds("How many ranges have a count of more than 0 (of many leaves)", 2, 2, ALL_OF_TEN_LEAVES,
            "digestSize(0) = 1");
        noSuchNode("digestSize(#)");
    }

    private static void below() {
        SAYS.part("promise 18");
        String items = journal(1, 0, 7, 31);
        SAYS.holds("below, value is 0 (no value is less)", 2, 16, LEAF, items,
            "below(1, 0, false) = 0; below(1, 0, true) = 0");
        SAYS.holds("below, value is 32 (all values are less)", 2, 16, LEAF, items,
            "below(1, 32, false) = 3; below(1, 32, true) = 3");
        SAYS.holds("below, value is 31 (all but the last are less)", 2, 16, LEAF, items,
            "below(1, 31, false) = 2; below(1, 31, true) = 2");
        SAYS.holds("below, value is 1 (only 0 is less)", 2, 16, LEAF, items,
            "below(1, 1, false) = 1; below(1, 1, true) = 1");
        SAYS.holds("less than value (not as much)", 2, 16, LEAF, items,
            "below(1, 7, false) = 1; below(1, 7, true) = 1",
            "below(1, 8, false) = 2; below(1, 8, true) = 2");
        SAYS.holds("The sum of the counts (no items)", 2, 16, TREE, "below(1, 32, false) = 0; below(1, 32, true) = 0",
            "below(0, 32, true) = 0; below(2, 32, true) = 0; below(0, 0, false) = 0");
        SAYS.holds("The sum of the counts (without the open block)", 2, 16, LEAF, adds(1, 5, 6, 7),
            "below(1, 32, true) = 0; flush(1) = 3; below(1, 32, true) = 3");
    }

    private static void belowOfWideRanges() {
        // Ranges 2 (0 .. 15) and 3 (16 .. 31) have 1 each.
        String halves = journal(1, 3, 20);
        SAYS.holds("ranges all of whose values are less than value (all but one: no)", 2, 2, LEAF, halves,
            "below(1, 15, false) = 0; below(1, 31, false) = 1");
        SAYS.holds("ranges all of whose values are less than value (all: yes)", 2, 2, LEAF, halves,
            "below(1, 16, false) = 1; below(1, 32, false) = 2");
        SAYS.holds("(with some: at least one of whose values is) (one: yes)", 2, 2, LEAF, halves,
            "below(1, 1, true) = 1; below(1, 17, true) = 2");
        SAYS.holds("(with some: at least one of whose values is) (none: no)", 2, 2, LEAF, halves,
            "below(1, 0, true) = 0; below(1, 16, true) = 1");
        // Two 9 are single, and 20 is in range 1.
        SAYS.holds("ranges all of whose values are less than value (range 1)", 2, 2, LEAF, journal(1, 9, 9, 20),
            "below(1, 10, false) = 2; below(1, 31, false) = 2; below(1, 32, false) = 3");
        SAYS.holds("(with some: at least one of whose values is) (range 1)", 2, 2, LEAF, journal(1, 9, 9, 20),
            "below(1, 0, true) = 0; below(1, 1, true) = 1; below(1, 9, true) = 1; below(1, 10, true) = 3");
        SAYS.holds("(with some: at least one of whose values is) (of many leaves)", 2, 2, ALL_OF_TEN_LEAVES,
            "below(0, 31, true) = 0; below(0, 32, false) = 480");
    }

    private static void belowRefused() {
        noSuchNode("below(#, 5, false)");
        noSuchNode("below(#, 5, true)");
        SAYS.holds("-1 when [..] value is not 0 .. (too small)", 2, 16, LEAF, ITEMS,
            "below(1, -1, false) = -1; below(1, -1, true) = -1; below(0, -1, true) = -1");
        SAYS.holds("-1 when [..] value is not .. 32 (too large)", 2, 16, LEAF, ITEMS,
            "below(1, 33, false) = -1; below(1, 33, true) = -1; below(0, 33, false) = -1");
        SAYS.holds("-1 when [..] value is not 0 .. 32 (far away)", 2, 16, LEAF, ITEMS,
            Sentences.each("below(1, #, false) = -1; below(1, #, true) = -1",
                "34", "63", "64", "256", "-32", "MIN", "MAX"));
        SAYS.holds("-1 when there is no such node or value is not 0 .. 32 (both)", 2, 16, LEAF, ITEMS,
            "below(2, 33, false) = -1; below(-1, -1, true) = -1; below(12, 33, true) = -1");
    }

    private static void quantile() {
        SAYS.part("promise 19");
        String four = adds(1, 4, 31, 8, 6);
        SAYS.holds("and to at least 1 (p is 0)", 2, 16, LEAF, four, "quantile(1, 0) = 4");
        SAYS.holds("and to at least 1 (p * n / 1000 is less than 1)", 2, 16, LEAF, four,
            "quantile(1, 1) = 4; quantile(1, 249) = 4");
        SAYS.holds("come to at least p * n / 1000 (to just as much)", 2, 16, LEAF, four,
            "quantile(1, 250) = 4; quantile(1, 500) = 6; quantile(1, 750) = 8");
        SAYS.holds("come to at least p * n / 1000 (one thousandth more)", 2, 16, LEAF, four,
            "quantile(1, 251) = 6; quantile(1, 501) = 8; quantile(1, 751) = 31");
        SAYS.holds("come to at least p * n / 1000 (p is 1000)", 2, 16, LEAF, four,
            "quantile(1, 1000) = 31; quantile(1, 999) = 31");
        SAYS.holds("(not rounded) (a third)", 2, 16, LEAF, journal(1, 1, 2, 3),
            "quantile(1, 333) = 1; quantile(1, 334) = 2; quantile(1, 666) = 2; quantile(1, 667) = 3");
        SAYS.holds("(not rounded) (a seventh)", 2, 16, LEAF, adds(1, 1, 2, 3, 4), journal(1, 5, 6, 7),
            "quantile(1, 142) = 1; quantile(1, 143) = 2; quantile(1, 857) = 6; quantile(1, 858) = 7");
        SAYS.holds("the answer is the greatest value of the first range (the least value)", 2, 16, LEAF,
            journal(1, 0),
            "quantile(1, 0) = 0; quantile(1, 1000) = 0");
        SAYS.holds("the answer is the greatest value of the first range (the greatest value)", 2, 16, LEAF,
            journal(1, 31),
            "quantile(1, 0) = 31; quantile(1, 1000) = 31");
        SAYS.holds("come to at least p * n / 1000 (of a full leaf)", 2, 16, LEAF,
            Sentences.times(24, "add(1, 3) = true; add(1, 30) = true"),
            "quantile(1, 0) = 3; quantile(1, 500) = 3; quantile(1, 501) = 30; quantile(1, 1000) = 30");
        SAYS.holds("come to at least p * n / 1000 (of many leaves)", 2, 16, tenLeaves("3", "31"),
            "quantile(0, 500) = 3; quantile(0, 501) = 31");
        SAYS.holds("come to at least p * n / 1000 (of many leaves, p is 1000)", 2, 16, tenLeaves("3", "31"),
            "quantile(0, 1000) = 31; quantile(0, 0) = 3");
    }

    private static void quantileOfWideRanges() {
        // The 240 items of 3 are just as many as t in the end and rise to range 2.
        SAYS.holds("the greatest value of the first range (of many leaves)", 2, 2, tenLeaves("3", "31"),
            "quantile(0, 500) = 15; quantile(0, 501) = 31");
        SAYS.holds("by rising greatest values (a wide range comes after the single values in it)", 2, 2, LEAF,
            // The 3 is in range 1.
            journal(1, 9, 9, 3), "quantile(1, 0) = 9; quantile(1, 666) = 9; quantile(1, 667) = 31");
        SAYS.holds("the greatest value of the first range (not its least)", 2, 2, LEAF, journal(1, 0, 16),
            "quantile(1, 0) = 15; quantile(1, 500) = 15; quantile(1, 501) = 31; quantile(1, 1000) = 31");
        SAYS.holds("of those with the same greatest value the smaller range first (the answer is the same)", 2, 2, LEAF,
            // The two 31 are single, and 3 is in range 1.
            journal(1, 31, 31, 3), "quantile(1, 0) = 31; quantile(1, 666) = 31; quantile(1, 667) = 31");
        SAYS.holds("by rising greatest values (a range of the lower half, then single values)", 2, 2, LEAF,
            // Ranges 16 (0 .. 1) and 17 (2 .. 3) have 1 each, and the second 0 is single.
            journal(1, 0, 2, 0), "quantile(1, 0) = 0; quantile(1, 333) = 0; quantile(1, 334) = 1; quantile(1, 667) = 3");
    }

    private static void quantileRefused() {
        noSuchNode("quantile(#, 500)");
        SAYS.holds("-1 when [..] it has no items (a new leaf)", 2, 16, TREE,
            "quantile(1, 0) = -1; quantile(1, 1000) = -1");
        SAYS.holds("-1 when [..] it has no items (an open block only)", 2, 16, TREE, adds(1, 5, 6, 7),
            "quantile(1, 500) = -1");
        SAYS.holds("-1 when [..] it has no items (an inner node, the root)", 2, 16, TREE,
            "quantile(2, 500) = -1; quantile(0, 0) = -1");
        SAYS.holds("-1 when [..] it has no items (a summary without items is kept)", 2, 16, TREE,
            "report(1) = 1; deliver(1) = 1; quantile(0, 0) = -1; quantile(0, 500) = -1");
        SAYS.holds("-1 when [..] it has no items (after a crash)", 2, 16, TREE, journal(1, 7),
            "report(1) = 1; deliver(1) = 1; quantile(0, 0) = 7; crash(0) = true; quantile(0, 0) = -1",
            "quantile(0, 500) = -1");
        SAYS.holds("-1 when [..] p is not 0 .. (too small)", 2, 16, LEAF, ITEMS,
            "quantile(1, -1) = -1; quantile(1, 0) = 5");
        SAYS.holds("-1 when [..] p is not .. 1000 (too large)", 2, 16, LEAF, ITEMS,
            "quantile(1, 1001) = -1; quantile(1, 1000) = 5");
        SAYS.holds("-1 when [..] p is not 0 .. 1000 (far away)", 2, 16, LEAF, ITEMS,
            Sentences.each("quantile(1, #) = -1", "-1000", "2000", "65536", "4294968", "MIN", "MAX"));
        SAYS.holds("-1 when [..] p is not 0 .. 1000 (without items too)", 2, 16, LEAF,
            Sentences.each("quantile(1, #) = -1; quantile(2, #) = -1", "-1", "1001", "MIN", "MAX"));
    }
}
