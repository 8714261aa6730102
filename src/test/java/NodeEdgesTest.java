/** Promises 13 to 19, sentence by sentence: nodes, tested, threshold, child, classOf, weight, part. */
public final class NodeEdgesTest {
    private static final Check check = new Check();
    private static final int LOW = Integer.MIN_VALUE;
    private static final int HIGH = Integer.MAX_VALUE;

    public static void main(String[] args) {
        nodesWithoutATree();
        nodesOfTheTree();
        noSuchNode();
        noSuchNodeWithoutATree();
        testedAtALeaf();
        thresholdOfDiscreteAndLeaf();
        lowestAndHighestThreshold();
        noSuchBranch();
        noBranchOfALeaf();
        noSuchClass();
        partAndWeightOfZero();
        numbersOfALargeTree();
        goneNodes();
        askingLeavesAll();
        check.end();
    }

    private static void nodesWithoutATree() {
        check.part("promise 13: 0 when there is none");
        check.due("nodes()", new CaseTree().nodes(), 0);
        CaseTree x = Make.of("2", "0 0", "1 1");
        check.due("nodes() with cases", x.nodes(), 0);
        x.grow(6);
        check.due("nodes() behind a refused grow", x.nodes(), 0);
    }

    private static void nodesOfTheTree() {
        check.part("promise 13: the number of nodes of the tree");
        CaseTree x = Make.of("4", "0 0", "1 1");
        check.due("grow(1)", x.grow(1), 5);
        check.due("nodes()", x.nodes(), 5);
        check.due("prune(2000)", x.prune(2000), 1);
        check.due("nodes() behind prune", x.nodes(), 1);
        x.grow(1);
        check.due("nodes() behind grow", x.nodes(), 5);
    }

    /** Four nodes: the last is 3. */
    private static void noSuchNode() {
        CaseTree x = Make.of("3", "0 0", "1 1", "2 2");
        check.part("promises 14 to 19: the first and the last node");
        check.due("grow(1)", x.grow(1), 4);
        check.node(x, 0, 0, -1, 0, 720, 720, 720);
        check.due("child(0, 2)", x.child(0, 2), 3);
        check.due("part(0, 2)", x.part(0, 2), 720);
        check.node(x, 3, -1, -1, 2, 0, 0, 720);
        check.part("promises 14 to 19: -1 when there is no such node");
        for (int node : new int[] {LOW, -2, -1, 4, 5, 84, 85, 86, 1000, HIGH}) {
            askedInVain(x, node);
        }
    }

    private static void askedInVain(CaseTree x, int node) {
        check.node(x, node, -1, -1, -1, -1, -1, -1);
        check.due("child(" + node + ", 0)", x.child(node, 0), -1);
        check.due("part(" + node + ", 0)", x.part(node, 0), -1);
    }

    private static void noSuchNodeWithoutATree() {
        check.part("promises 14 to 19: -1 without a tree");
        CaseTree x = Make.of("3", "0 0", "1 1", "2 2");
        for (int node = -1; node < 4; node++) {
            askedInVain(x, node);
        }
    }

    private static void testedAtALeaf() {
        check.part("promise 14: the attribute that is tested, -1 at a leaf");
        for (int attribute = 0; attribute < 4; attribute++) {
            String none = "0 ".repeat(attribute);
            CaseTree x = Make.of("2 2 2 2", "0 " + none + "0", "1 " + none + "1");
            check.due("grow(1)", x.grow(1), 3);
            check.due("tested(0)", x.tested(0), attribute);
            check.due("tested(1)", x.tested(1), -1);
            check.due("tested(2)", x.tested(2), -1);
            x.prune(2000);
            check.due("tested(0) of the pruned root", x.tested(0), -1);
        }
    }

    private static void thresholdOfDiscreteAndLeaf() {
        check.part("promise 15: -1 when it is a leaf or its test is of a discrete attribute");
        CaseTree x = Make.of("2 0", "2x 0 0 45", "1 1 10", "2 1 90");
        check.due("grow(1)", x.grow(1), 5);
        check.due("threshold(0), discrete", x.threshold(0), -1);
        check.due("threshold(1), a leaf", x.threshold(1), -1);
        check.due("threshold(2), continuous", x.threshold(2), 45);
        check.due("threshold(3), a leaf", x.threshold(3), -1);
        x.prune(2000);
        check.due("threshold(0) of the pruned root", x.threshold(0), -1);
        CaseTree pruned = Make.of("0", "0 10", "1 20");
        pruned.grow(1);
        pruned.prune(2000);
        check.due("threshold(0) of a pruned continuous test", pruned.threshold(0), -1);
    }

    private static void lowestAndHighestThreshold() {
        check.part("promise 15: a threshold of 0 and of 998");
        CaseTree low = Make.of("0", "0 0", "1 1");
        low.grow(1);
        check.due("threshold(0)", low.threshold(0), 0);
        CaseTree high = Make.of("0", "0 998", "1 999");
        high.grow(1);
        check.due("threshold(0)", high.threshold(0), 998);
    }

    private static void noSuchBranch() {
        String[] kinds = {"2", "3", "4", "0"};
        int[] branches = {2, 3, 4, 2};
        for (int i = 0; i < 4; i++) {
            check.part("promises 16 and 19: -1 when there is no such branch, kind " + kinds[i]);
            CaseTree x = Make.of(kinds[i], "0 0", "1 1");
            check.due("grow(1)", x.grow(1), 1 + branches[i]);
            for (int branch = 0; branch < branches[i]; branch++) {
                check.due("child(0, " + branch + ")", x.child(0, branch), 1 + branch);
                check.due("part(0, " + branch + ")", x.part(0, branch), branch < 2 ? 720 : 0);
            }
            for (int branch : new int[] {LOW, -2, -1, branches[i], 4, 5, HIGH}) {
                check.due("child(0, " + branch + ")", x.child(0, branch), -1);
                check.due("part(0, " + branch + ")", x.part(0, branch), -1);
            }
        }
    }

    private static void noBranchOfALeaf() {
        check.part("promises 16 and 19: a leaf has no branch");
        CaseTree x = Make.of("2", "0 0", "1 1");
        x.grow(1);
        CaseTree pruned = Make.of("2", "0 0", "1 1");
        pruned.grow(1);
        pruned.prune(2000);
        for (int branch = -1; branch <= 4; branch++) {
            check.due("child(1, " + branch + ")", x.child(1, branch), -1);
            check.due("part(2, " + branch + ")", x.part(2, branch), -1);
            check.due("child(0, " + branch + ") of a pruned root", pruned.child(0, branch), -1);
            check.due("part(0, " + branch + ") of a pruned root", pruned.part(0, branch), -1);
        }
    }

    private static void noSuchClass() {
        check.part("promise 18: -1 when there is no such class");
        CaseTree x = Make.of("2", "0 0", "2x 1 1", "3x 2 1");
        x.grow(1);
        check.due("weight(0, 0)", x.weight(0, 0), 720);
        check.due("weight(0, 1)", x.weight(0, 1), 1440);
        check.due("weight(0, 2)", x.weight(0, 2), 2160);
        for (int type : new int[] {LOW, -2, -1, 3, 4, HIGH}) {
            check.due("weight(0, " + type + ")", x.weight(0, type), -1);
            check.due("weight(1, " + type + ")", x.weight(1, type), -1);
        }
    }

    private static void partAndWeightOfZero() {
        check.part("promises 18 and 19: 0 where there is a class or a branch without weight");
        CaseTree x = Make.of("3", "0 0", "1 2");
        check.due("grow(1)", x.grow(1), 4);
        check.due("part(0, 1)", x.part(0, 1), 0);
        check.due("weight(2, 0)", x.weight(2, 0), 0);
        check.due("weight(0, 2)", x.weight(0, 2), 0);
        CaseTree all = Make.of("", "24x 2");
        all.grow(5);
        check.due("weight(0, 2) of all", all.weight(0, 2), 24 * 720);
    }

    /** Twelve nodes at depth 2 with 1440 each: more nodes than these 69 no tree can have. */
    private static CaseTree large() {
        return Make.of("4 4 4 4", "1 0 0 3 0", "1 0 1 0 3", "0 0 2 3 0", "1 2 2 1 2", "2 2 2 0 1", "2 3 0 1 2",
                "0 0 1 0 0", "2 1 0 -1 1", "2 3 1 0 0", "2 3 2 3 1", "1 3 0 0 0", "2 1 1 2 2", "0 0 3 2 0", "2 0 2 2 3",
                "0 3 2 1 1", "2 0 0 1 0", "2 0 3 3 0", "1 3 3 1 3", "1 2 3 0 1", "1 3 1 1 1", "0 1 0 3 2", "0 2 2 1 1",
                "0 1 0 -1 1", "0 3 3 0 3");
    }

    private static void numbersOfALargeTree() {
        check.part("promise 16: a node, then all nodes below its branch 0, then all below its branch 1, and so on");
        CaseTree x = large();
        check.due("grow(1)", x.grow(1), 69);
        check.due("the number behind the last node", numberFrom(x, 0), 69);
        check.due("classOf(69)", x.classOf(69), -1);
    }

    /** Answers the number behind those of a node and of all that is below it. */
    private static int numberFrom(CaseTree x, int node) {
        int next = node + 1;
        int branches = x.tested(node) < 0 ? 0 : 4;
        for (int branch = 0; branch < branches; branch++) {
            check.due("child(" + node + ", " + branch + ")", x.child(node, branch), next);
            next = numberFrom(x, next);
        }
        check.due("child(" + node + ", " + branches + ")", x.child(node, branches), -1);
        return next;
    }

    private static void goneNodes() {
        check.part("promises 14 to 19: nodes of a tree that there was");
        CaseTree x = large();
        x.grow(1);
        check.due("grow(5)", x.grow(5), 5);
        askedInVain(x, 5);
        askedInVain(x, 68);
        x.grow(1);
        check.due("prune(2000)", x.prune(2000), 1);
        askedInVain(x, 1);
        askedInVain(x, 68);
    }

    private static void askingLeavesAll() {
        check.part("promises 13 to 19: asking changes nothing");
        String[] cases = {"0 0 5", "1 1 7", "2 1 9", "1 -1 8", "0 0 -1"};
        CaseTree x = Make.of("2 0", cases);
        CaseTree y = Make.of("2 0", cases);
        x.grow(1);
        y.grow(1);
        for (int i : new int[] {LOW, -1, 0, 1, 3, 85, HIGH}) {
            askedInVainOrNot(x, i);
        }
        check.same(x, y);
    }

    private static void askedInVainOrNot(CaseTree x, int node) {
        x.nodes();
        x.tested(node);
        x.threshold(node);
        x.classOf(node);
        x.child(node, node);
        x.part(0, node);
        x.weight(node, 3);
    }
}
