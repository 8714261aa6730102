/** Promises 6, 7 and 8: classify, share, wrong. */
public final class ClassifyingTest {
    private static final Check check = new Check();

    public static void main(String[] args) {
        refusals();
        knownValues();
        unknownValues();
        mixedLeaf();
        emptyLeaf();
        lowestOfSeveral();
        sharesStay();
        wrongCounts();
        check.end();
    }

    private static CaseTree of(int[] kinds, int[][] cases) {
        CaseTree x = new CaseTree();
        for (int kind : kinds) {
            x.attribute(kind);
        }
        for (int[] row : cases) {
            x.add(row[0], row[1], row.length > 2 ? row[2] : 0, 0, 0);
        }
        return x;
    }

    private static void shares(CaseTree x, int... due) {
        for (int type = 0; type < 3; type++) {
            check.due("share(" + type + ")", x.share(type), due[type]);
        }
    }

    private static void refusals() {
        check.part("promise 6, refusals");
        CaseTree x = of(new int[] {2, 0}, new int[][] {{0, 0, 5}, {1, 1, 5}});
        check.due("classify without a tree", x.classify(0, 0, 0, 0), CaseTree.NONE);
        check.due("classify of no value without a tree", x.classify(2, 0, 0, 0), CaseTree.BAD);
        x.grow(1);
        for (int value : new int[] {-2, 2, Integer.MIN_VALUE, Integer.MAX_VALUE}) {
            check.due("classify(" + value + ")", x.classify(value, 0, 0, 0), CaseTree.BAD);
        }
        for (int value : new int[] {-2, 1000, Integer.MIN_VALUE, Integer.MAX_VALUE}) {
            check.due("classify(0, " + value + ")", x.classify(0, value, 0, 0), CaseTree.BAD);
        }
        shares(x, 0, 0, 0);
        check.due("values of no attribute", x.classify(1, 999, -7, 5000), 1);
        check.due("both unknown", x.classify(-1, -1, 0, 0), 0);
    }

    private static void knownValues() {
        check.part("promises 6 and 7, known values");
        CaseTree x = of(new int[] {0}, new int[][] {{2, 10}, {2, 20}, {1, 30}, {1, 40}});
        check.due("grow(2)", x.grow(2), 3);
        int[][] due = {{0, 2}, {20, 2}, {21, 1}, {25, 1}, {30, 1}, {999, 1}};
        for (int[] pair : due) {
            check.due("classify(" + pair[0] + ")", x.classify(pair[0], 0, 0, 0), pair[1]);
            check.due("share", x.share(pair[1]), 720);
            check.due("share of the other", x.share(3 - pair[1]), 0);
        }
    }

    /** Parts 2, 3 and 2 of 7: 205, 308 and 205, and the rest of 2 with the second. */
    private static void unknownValues() {
        check.part("promises 6 and 7, unknown values");
        CaseTree x = of(new int[] {3}, new int[][] {
            {0, 0}, {0, 0}, {1, 1}, {1, 1}, {1, 1}, {2, 2}, {2, 2}});
        check.due("grow(1)", x.grow(1), 4);
        check.due("classify(-1)", x.classify(-1, 0, 0, 0), 1);
        shares(x, 205, 310, 205);
        check.due("more cases", x.add(0, 0, 0, 0, 0), 7);
        check.due("classify(-1) by the tree's own parts", x.classify(-1, 0, 0, 0), 1);
        shares(x, 205, 310, 205);
    }

    /** One leaf with 3, 3 and 1 of 7 cases: 308, 308 and 102, and the rest of 2 to its class. */
    private static void mixedLeaf() {
        check.part("promises 6 and 7, a mixed leaf");
        CaseTree x = of(new int[0], new int[][] {
            {1, 0}, {1, 0}, {1, 0}, {2, 0}, {2, 0}, {2, 0}, {0, 0}});
        check.due("grow(1)", x.grow(1), 1);
        check.due("classify", x.classify(5, 5, 5, 5), 1);
        shares(x, 102, 310, 308);
    }

    private static void emptyLeaf() {
        check.part("promises 6 and 7, a leaf without weight");
        CaseTree x = of(new int[] {4}, new int[][] {{1, 0}, {1, 0}, {2, 2}, {2, 2}, {2, 2}});
        check.due("grow(1)", x.grow(1), 5);
        check.due("classify(1)", x.classify(1, 0, 0, 0), 2);
        shares(x, 0, 0, 720);
        check.due("classify(0)", x.classify(0, 0, 0, 0), 1);
        shares(x, 0, 720, 0);
    }

    private static void lowestOfSeveral() {
        check.part("promise 6, of several the lowest");
        CaseTree x = of(new int[] {2}, new int[][] {{2, 0}, {1, 1}});
        check.due("grow(1)", x.grow(1), 3);
        check.due("classify(-1)", x.classify(-1, 0, 0, 0), 1);
        shares(x, 0, 360, 360);
    }

    private static void sharesStay() {
        check.part("promise 7");
        CaseTree x = of(new int[] {2}, new int[][] {{2, 0}, {1, 1}});
        shares(x, 0, 0, 0);
        x.classify(0, 0, 0, 0);
        shares(x, 0, 0, 0);
        x.grow(1);
        shares(x, 0, 0, 0);
        x.wrong();
        shares(x, 0, 0, 0);
        x.classify(-1, 0, 0, 0);
        shares(x, 0, 360, 360);
        check.due("classify of no value", x.classify(2, 0, 0, 0), CaseTree.BAD);
        x.wrong();
        x.prune(2000);
        x.add(0, 0, 0, 0, 0);
        x.grow(5);
        shares(x, 0, 360, 360);
        for (int type : new int[] {-1, 3, Integer.MIN_VALUE, Integer.MAX_VALUE}) {
            check.due("share(" + type + ")", x.share(type), 0);
        }
    }

    private static void wrongCounts() {
        check.part("promise 8");
        CaseTree x = of(new int[] {2}, new int[][] {{0, 0}, {0, 0}, {1, 1}, {1, 1}});
        check.due("wrong() without a tree", x.wrong(), CaseTree.NONE);
        x.grow(1);
        check.due("wrong()", x.wrong(), 0);
        x.add(1, 0, 0, 0, 0);
        check.due("wrong() with a new case", x.wrong(), 1);
        x.add(0, -1, 0, 0, 0);
        check.due("an unknown value that goes well", x.wrong(), 1);
        x.add(1, -1, 0, 0, 0);
        check.due("an unknown value that does not", x.wrong(), 2);
        x.add(2, 1, 0, 0, 0);
        check.due("a class that the tree has not", x.wrong(), 3);
    }
}
