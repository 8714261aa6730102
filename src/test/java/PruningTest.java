/** Promise 5: prune. */
public final class PruningTest {
    private static final Check check = new Check();

    public static void main(String[] args) {
        refusals();
        leafWhenNotWorse();
        branchTakesThePlace();
        emptyNodeKeepsItsClass();
        onlyItsOwnCases();
        againAndAgain();
        leafBeforeBranch();
        leafBeforeNothing();
        branchBeforeLeaf();
        branchBeforeNothing();
        firstOfSeveralBranches();
        errorsAfterWhatIsBelow();
        check.end();
    }

    private static CaseTree of(int first, int second, int[][] cases) {
        CaseTree x = new CaseTree();
        x.attribute(first);
        x.attribute(second);
        for (int[] row : cases) {
            x.add(row[0], row[1], row[2], 0, 0);
        }
        return x;
    }

    private static void node(CaseTree x, int node, int tested, int type, int... weights) {
        check.due("tested(" + node + ")", x.tested(node), tested);
        check.due("classOf(" + node + ")", x.classOf(node), type);
        for (int i = 0; i < 3; i++) {
            check.due("weight(" + node + ", " + i + ")", x.weight(node, i), weights[i]);
        }
    }

    private static void refusals() {
        check.part("promise 5, refusals");
        CaseTree x = of(2, 2, new int[][] {{0, 0, 0}, {1, 1, 1}});
        check.due("prune(0) without a tree", x.prune(0), CaseTree.NONE);
        check.due("prune(-1) without a tree", x.prune(-1), CaseTree.BAD);
        check.due("grow(1)", x.grow(1), 3);
        for (int charge : new int[] {-1, 2001, Integer.MIN_VALUE, Integer.MAX_VALUE}) {
            check.due("prune(" + charge + ")", x.prune(charge), CaseTree.BAD);
        }
        check.due("nodes()", x.nodes(), 3);
        check.due("prune(0)", x.prune(0), 3);
        check.due("prune(2000)", x.prune(2000), 1);
    }

    /** A leaf has 720 + charge errors here, the two branches 2 * charge, the heavier one as a leaf. */
    private static void leafWhenNotWorse() {
        check.part("promise 5, a leaf");
        int[][] cases = {{0, 0, 0}, {0, 0, 0}, {1, 1, 1}};
        CaseTree x = of(2, 2, cases);
        check.due("grow(1)", x.grow(1), 3);
        check.due("prune(719)", x.prune(719), 3);
        check.due("prune(720)", x.prune(720), 1);
        node(x, 0, -1, 0, 1440, 720, 0);
        check.due("threshold(0)", x.threshold(0), -1);
        check.due("child(0, 0)", x.child(0, 0), -1);
        check.due("part(0, 0)", x.part(0, 0), -1);
        // a branch without weight is charged nothing
        CaseTree wide = of(4, 2, cases);
        check.due("grow(1) by attribute 0", wide.grow(1), 5);
        check.due("prune(719)", wide.prune(719), 5);
        check.due("prune(720)", wide.prune(720), 1);
    }

    /**
     * Grown, attribute 1 is tested at the root and attribute 0 below its branch 1. There: a leaf
     * would have 960 errors, its heaviest branch with all cases too, and it has 720. At the root: a
     * leaf would have 1440, branch 1 with all cases 720 (one of the four cases with value 0), and it
     * has 720: branch 1 takes its place.
     */
    private static void branchTakesThePlace() {
        check.part("promise 5, the heaviest branch");
        int[][] cases = {{0, 0, -1}, {0, 0, 0}, {1, 1, 1}, {0, 0, -1}, {1, 0, 1}};
        CaseTree x = of(2, 2, cases);
        check.due("grow(1)", x.grow(1), 5);
        check.due("prune(0)", x.prune(0), 3);
        node(x, 0, 0, 0, 2160, 1440, 0);
        check.due("part(0, 0)", x.part(0, 0), 2880);
        check.due("part(0, 1)", x.part(0, 1), 720);
        check.due("child(0, 0)", x.child(0, 0), 1);
        check.due("child(0, 1)", x.child(0, 1), 2);
        node(x, 1, -1, 0, 2160, 720, 0);
        node(x, 2, -1, 1, 0, 720, 0);
        check.due("wrong()", x.wrong(), 1);
    }

    /**
     * Attribute 0 at the root, attribute 1 below its branch 0, whose class was 2 and whose branch 1
     * no case takes. In the root's place its class becomes 0; the empty node below stays at 2.
     */
    private static void emptyNodeKeepsItsClass() {
        check.part("promise 5, a node without weight");
        int[][] cases = {{0, 1, 0}, {2, 0, 2}, {0, -1, -1}, {0, 0, 0}, {2, 0, 0}};
        CaseTree x = of(2, 3, cases);
        check.due("grow(1)", x.grow(1), 6);
        node(x, 1, 1, 2, 1260, 0, 1440);
        node(x, 3, -1, 2, 0, 0, 0);
        check.due("prune(0)", x.prune(0), 4);
        node(x, 0, 1, 0, 2160, 0, 1440);
        node(x, 1, -1, 0, 1980, 0, 720);
        node(x, 2, -1, 2, 0, 0, 0);
        node(x, 3, -1, 2, 180, 0, 720);
        check.due("classify(0, 1)", x.classify(0, 1, 0, 0), 2);
        check.due("share(2)", x.share(2), 720);
    }

    private static void onlyItsOwnCases() {
        check.part("promise 5, its own cases");
        CaseTree x = of(2, 2, new int[][] {{0, 0, 0}, {0, 0, 0}, {1, 1, 1}});
        check.due("grow(1)", x.grow(1), 3);
        for (int i = 0; i < 6; i++) {
            x.add(2, 1, 0, 0, 0);
        }
        check.due("prune(719)", x.prune(719), 3);
        node(x, 2, -1, 1, 0, 720, 0);
        check.due("prune(720)", x.prune(720), 1);
        node(x, 0, -1, 0, 1440, 720, 0);
        check.due("wrong()", x.wrong(), 7);
    }

    private static void againAndAgain() {
        check.part("promise 5, once more");
        CaseTree x = of(2, 2, new int[][] {{0, 0, -1}, {0, 0, 0}, {1, 1, 1}, {0, 0, -1}, {1, 0, 1}});
        x.grow(1);
        for (int i = 0; i < 3; i++) {
            check.due("prune(0)", x.prune(0), 3);
        }
        check.due("prune(1000)", x.prune(1000), 1);
        check.due("prune(0)", x.prune(0), 1);
        check.due("grow(1)", x.grow(1), 5);
        check.due("tested(0)", x.tested(0), 1);
    }

    /** Pruned with 360: a leaf has 720 * wrong cases + 360 errors. */
    private static CaseTree pruned(int[] kinds, int grown, int left, int[][] cases) {
        CaseTree x = new CaseTree();
        for (int kind : kinds) {
            x.attribute(kind);
        }
        for (int[] row : cases) {
            x.add(row[0], row[1], row[2], row[3], 0);
        }
        check.due("grow(1)", x.grow(1), grown);
        check.due("prune(360)", x.prune(360), left);
        return x;
    }

    /** At the root A, C and E are all 1800, and the heaviest branch is no leaf. */
    private static void leafBeforeBranch() {
        check.part("promise 5, A = C = E");
        CaseTree x = pruned(new int[] {2, 2, 2}, 5, 1,
                new int[][] {{0, 1, -1, 1}, {2, 1, -1, 1}, {1, 0, 0, 1}, {0, 0, 1, 0}});
        node(x, 0, -1, 0, 1440, 720, 720);
    }

    /** At node 2 A and E are 1080, and C is 1440. */
    private static void leafBeforeNothing() {
        check.part("promise 5, A = E < C");
        CaseTree x = pruned(new int[] {2, 3, 2}, 8, 4,
                new int[][] {{0, 1, 1, 0}, {0, 0, 1, 1}, {1, 1, 0, 0}, {2, 0, 1, 0}});
        node(x, 0, 1, 0, 1440, 720, 720);
        node(x, 2, -1, 0, 1440, 0, 720);
        node(x, 3, -1, 0, 0, 0, 0);
    }

    /** At the root A and E are 1800, and C is 1440. */
    private static void branchBeforeLeaf() {
        check.part("promise 5, C < A = E");
        CaseTree x = pruned(new int[] {2, 3, 2}, 5, 3,
                new int[][] {{0, 1, 2, 0}, {0, 1, 0, 1}, {2, -1, 0, 1}, {1, 0, 0, 0}});
        node(x, 0, 0, 0, 1440, 720, 720);
        node(x, 1, -1, 1, 0, 720, 240);
        node(x, 2, -1, 0, 1440, 0, 480);
    }

    /** At the root C and E are 1440, and A is 1800. */
    private static void branchBeforeNothing() {
        check.part("promise 5, C = E < A");
        CaseTree x = pruned(new int[] {3, 2, 2}, 6, 3,
                new int[][] {{1, 0, 0, 0}, {1, 1, 0, 0}, {0, 2, 0, 0}, {0, 0, 1, 0}});
        node(x, 0, 1, 0, 1440, 1440, 0);
        node(x, 1, -1, 1, 720, 1440, 0);
        node(x, 2, -1, 0, 720, 0, 0);
    }

    /** Branches 0 and 2 of the root have the weight 1440; only below branch 0 there is a test. */
    private static void firstOfSeveralBranches() {
        check.part("promise 5, the first of several");
        CaseTree x = pruned(new int[] {3, 2, 2}, 6, 3,
                new int[][] {{0, 1, 0, 1}, {1, 2, 1, 1}, {0, 0, 0, 1}, {1, 0, 0, 0}, {1, 2, 1, 0}});
        node(x, 0, 2, 1, 1440, 2160, 0);
        node(x, 1, -1, 1, 0, 1440, 0);
        node(x, 2, -1, 0, 1440, 720, 0);
    }

    /**
     * Node 2 is replaced by its branch 2 and has 1440 errors then, not 1800: so at the root E is
     * 1800, and C with 2160 is above it.
     */
    private static void errorsAfterWhatIsBelow() {
        check.part("promise 5, upwards");
        CaseTree x = pruned(new int[] {4, 2, 2}, 9, 5, new int[][] {{1, 2, 0, 0}, {2, 0, 1, 0},
            {0, 2, 1, 1}, {0, 3, 1, 0}, {0, 1, 1, 1}, {2, 2, 1, 0}});
        node(x, 0, 1, 0, 2160, 720, 1440);
        node(x, 1, -1, 1, 0, 720, 0);
        node(x, 2, 2, 0, 2160, 0, 1440);
        node(x, 3, -1, 2, 720, 0, 1440);
        node(x, 4, -1, 0, 1440, 0, 0);
    }
}
