/**
 * Promise 5, sentence by sentence: prune. A stands for the errors of a node as a leaf, C for those
 * with its heaviest branch in its place, E for those that it has.
 */
public final class PruningEdgesTest {
    private static final Check check = new Check();
    private static final int LOW = Integer.MIN_VALUE;
    private static final int HIGH = Integer.MAX_VALUE;

    public static void main(String[] args) {
        charges();
        withoutATree();
        badAndNoneAtOnce();
        refusedLeavesTheTree();
        oneLeaf();
        chargeOfZero();
        chargeOfZeroMakesLeaves();
        chargeOf2000();

        leafAtE();
        leafAtEBelowC();
        leafAtCBelowE();
        leafAtCAndE();
        branchJustBelowLeaf();
        branchBelowLeafAtE();
        branchAtE();

        noChargeWithoutWeight();
        chargeForALightLeaf();
        heaviestBranch();
        firstOfSeveralBranches();
        fromTheLeavesUpwards();
        leafBelowTheRoot();
        lookedAtOnce();
        sentDownAnew();
        classOfANodeWithoutWeight();
        itsOwnCases();
        theCasesOfTheLatestTree();
        prunedAgain();
        chargeOfThisCall();
        pruneLeavesTheRest();
        check.end();
    }

    /** Grown anew and pruned; answers the tree, which is to have so many nodes. */
    private static CaseTree pruned(int charge, int nodes, String kinds, String... cases) {
        CaseTree x = Make.of(kinds, cases);
        x.grow(1);
        check.due("prune(" + charge + ")", x.prune(charge), nodes);
        check.due("nodes()", x.nodes(), nodes);
        return x;
    }

    private static void charges() {
        check.part("promise 5: BAD when charge is not 0 .. 2000");
        CaseTree x = Make.of("2", "12x 0 0", "12x 1 1");
        x.grow(1);
        int[][] due = {{LOW, -1}, {-2, -1}, {-1, -1}, {0, 3}, {1, 3}, {1999, 3}, {2000, 3}, {2001, -1}, {2002, -1},
            {HIGH, -1}};
        for (int[] pair : due) {
            check.due("prune(" + pair[0] + ")", x.prune(pair[0]), pair[1]);
        }
    }

    private static void withoutATree() {
        check.part("promise 5: NONE when there is no tree");
        CaseTree x = new CaseTree();
        check.due("prune(0) of a new object", x.prune(0), CaseTree.NONE);
        Make.add(x, "0", "1");
        check.due("prune(2000) with cases", x.prune(2000), CaseTree.NONE);
        check.due("nodes()", x.nodes(), 0);
        x.grow(1);
        check.due("prune(2000) with a tree", x.prune(2000), 1);
    }

    private static void badAndNoneAtOnce() {
        check.part("promise 5: BAD and NONE at once");
        CaseTree x = new CaseTree();
        check.due("prune(-1)", x.prune(-1), CaseTree.BAD);
        check.due("prune(2001)", x.prune(2001), CaseTree.BAD);
    }

    private static void refusedLeavesTheTree() {
        check.part("promise 5: what a refused call leaves");
        String[] cases = {"0 0 5", "1 1 7", "2 1 9", "1 -1 8", "0 0 -1"};
        CaseTree x = Make.of("2 0", cases);
        CaseTree y = Make.of("2 0", cases);
        check.due("grow(1)", x.grow(1), y.grow(1));
        x.prune(-1);
        x.prune(2001);
        x.prune(HIGH);
        check.same(x, y);
    }

    private static void oneLeaf() {
        check.part("promise 5: a tree of one leaf");
        CaseTree x = pruned(0, 1, "2", "0 0", "1 0");
        check.due("prune(2000)", x.prune(2000), 1);
        check.node(x, 0, -1, -1, 0, 720, 720, 0);
    }

    /** All leaves are pure. With 0, C and E are 0; with 1, C is 4 and E is 3. */
    private static void chargeOfZero() {
        check.part("promise 5: a charge of 0, and of 1");
        String[] cases = {"0 2 1 0", "1 0 2 1", "1 3 2 0", "2 1 1 0"};
        CaseTree x = pruned(0, 5, "4 3 2", cases);
        check.node(x, 0, 0, -1, 1, 720, 1440, 720);
        check.node(pruned(1, 8, "4 3 2", cases), 0, 1, -1, 1, 720, 1440, 720);
    }

    /** Both leaves have the class of the root: A and E are 1440. In the second tree E is 0. */
    private static void chargeOfZeroMakesLeaves() {
        check.part("promise 5: a charge of 0 and A = E");
        pruned(0, 1, "2", "0 0", "0 1", "5x 1 0", "4x 1 1");
        pruned(0, 3, "2", "0 0", "1 1");
    }

    /** The root has 3600 errors and a charge, its leaves 1600 and two charges. */
    private static void chargeOf2000() {
        check.part("promise 5: a charge of 2000, and of 1999");
        String[] cases = {"4x 0 0", "4x 0 -1", "5x 1 10"};
        CaseTree x = pruned(1999, 3, "0", cases);
        check.node(x, 1, -1, -1, 0, 4160, 0, 0);
        check.node(x, 2, -1, -1, 1, 1600, 3600, 0);
        check.node(pruned(2000, 1, "0", cases), 0, -1, -1, 0, 5760, 3600, 0);
    }

    /** A is 720 and a charge, and so is C, the heaviest branch being a leaf; E is two charges. */
    private static void leafAtE() {
        check.part("promise 5: A = C, and A just above, at and below E");
        String[] cases = {"2x 0 0", "1 1"};
        pruned(719, 3, "2", cases);
        CaseTree x = pruned(720, 1, "2", cases);
        check.node(x, 0, -1, -1, 0, 1440, 720, 0);
        check.parts(x, 0);
        pruned(721, 1, "2", cases);
    }

    /** A is 720 and a charge, C 720 and two, E three charges. */
    private static void leafAtEBelowC() {
        check.part("promise 5: A < C, and A just above, at and below E");
        String[] cases = {"2 0 0", "0 10 0", "0 0 1"};
        pruned(359, 5, "0 2", cases);
        check.node(pruned(360, 1, "0 2", cases), 0, -1, -1, 0, 1440, 0, 720);
        pruned(361, 1, "0 2", cases);
    }

    /** A is 720 and a charge, C 240 and two, E three charges. */
    private static void leafAtCBelowE() {
        check.part("promise 5: A < E, and A just above, at and below C");
        String[] cases = {"0 -1 20", "0 -1 10", "0 10 -1", "1 0 0"};
        CaseTree x = pruned(479, 3, "0 0", cases);
        check.node(x, 0, 1, 0, 0, 2160, 720, 0);
        check.node(x, 1, -1, -1, 1, 240, 720, 0);
        check.node(x, 2, -1, -1, 0, 1920, 0, 0);
        check.node(pruned(480, 1, "0 0", cases), 0, -1, -1, 0, 2160, 720, 0);
        pruned(481, 1, "0 0", cases);
    }

    /** With 360 all are 1800; the heaviest branch has a test. */
    private static void leafAtCAndE() {
        check.part("promise 5: A, C and E equal");
        String[] cases = {"0 1 -1 1", "2 1 -1 1", "1 0 0 1", "0 0 1 0"};
        check.node(pruned(359, 5, "2 2 2", cases), 0, 0, -1, 0, 1440, 720, 720);
        check.node(pruned(360, 1, "2 2 2", cases), 0, -1, -1, 0, 1440, 720, 720);
    }

    /** With 719: A 2159, C 2158, E 2876. With 720 node 2 is a leaf already. */
    private static void branchJustBelowLeaf() {
        check.part("promise 5: C just below A");
        String[] cases = {"2 0 0", "0 0 1", "0 0 2", "2 1 1"};
        CaseTree x = pruned(719, 3, "2 3", cases);
        check.node(x, 0, 0, -1, 0, 1440, 0, 1440);
        check.parts(x, 0, 2160, 720);
        pruned(720, 1, "2 3", cases);
    }

    /** With 360: A and E are 1800, C is 1440. */
    private static void branchBelowLeafAtE() {
        check.part("promise 5: C < A = E");
        CaseTree x = pruned(360, 3, "2 3 2", "0 1 2 0", "0 1 0 1", "2 -1 0 1", "1 0 0 0");
        check.node(x, 0, 0, -1, 0, 1440, 720, 720);
        check.node(x, 1, -1, -1, 1, 0, 720, 240);
        check.node(x, 2, -1, -1, 0, 1440, 0, 480);
    }

    /** C is 720 and two charges, E four charges; A is 1440 and one. */
    private static void branchAtE() {
        check.part("promise 5: C < A, and C just above, at and below E");
        String[] cases = {"1 0 0 0", "1 1 0 0", "0 2 0 0", "0 0 1 0"};
        check.node(pruned(359, 6, "3 2 2", cases), 0, 0, -1, 0, 1440, 1440, 0);
        check.node(pruned(360, 3, "3 2 2", cases), 0, 1, -1, 0, 1440, 1440, 0);
        check.node(pruned(361, 3, "3 2 2", cases), 0, 1, -1, 0, 1440, 1440, 0);
    }

    /** As with leafAtE; the two branches without cases cost nothing. */
    private static void noChargeWithoutWeight() {
        check.part("promise 5: the charge only when W is above 0");
        pruned(719, 5, "4", "2x 0 0", "1 1");
        pruned(720, 1, "4", "2x 0 0", "1 1");
    }

    /** Node 3: A is 720 and a charge, E three charges, one of them for a leaf with the weight 96. */
    private static void chargeForALightLeaf() {
        check.part("promise 5: the charge when W is just above 0");
        String[] cases = {"8x 0 0 0", "3x 1 0 0", "1 2 2", "2x 1 1 0", "0 2 1", "1 -1 0"};
        CaseTree x = pruned(359, 7, "3 3", cases);
        check.node(x, 3, 1, -1, 1, 720, 816, 0);
        check.node(x, 4, -1, -1, 1, 0, 96, 0);
        check.node(pruned(360, 4, "3 3", cases), 3, -1, -1, 1, 720, 816, 0);
    }

    /** Branch 1 has 2160 of 2880 at the root, and its test takes the place of that of the root. */
    private static CaseTree raised() {
        return pruned(120, 5, "2 0 2", "0 0 0 0", "2 1 0 1", "2 1 10 0", "0 1 0 0");
    }

    private static void heaviestBranch() {
        check.part("promise 5: the branch whose W is greatest");
        check.node(raised(), 0, 1, 0, 0, 1440, 0, 1440);
    }

    /** Branches 0 and 2 of the root have 1440 each; only below branch 0 there is a test. */
    private static void firstOfSeveralBranches() {
        check.part("promise 5: the first of several");
        CaseTree x = pruned(360, 3, "3 2 2", "0 1 0 1", "1 2 1 1", "0 0 0 1", "1 0 0 0", "1 2 1 0");
        check.node(x, 0, 2, -1, 1, 1440, 2160, 0);
        check.node(x, 1, -1, -1, 1, 0, 1440, 0);
        check.node(x, 2, -1, -1, 0, 1440, 720, 0);
    }

    /**
     * Node 2 is replaced first and has 1440 errors then, not 1800: at the root E is 1800, and C with
     * 2160 is above it.
     */
    private static void fromTheLeavesUpwards() {
        check.part("promise 5: a node is looked at when the nodes below it have been");
        CaseTree x = pruned(360, 5, "4 2 2", "1 2 0 0", "2 0 1 0", "0 2 1 1", "0 3 1 0", "0 1 1 1", "2 2 1 0");
        check.node(x, 0, 1, -1, 0, 2160, 720, 1440);
        check.node(x, 2, 2, -1, 0, 2160, 0, 1440);
    }

    /**
     * Node 2, whose heaviest branch has a test: A is 720 and a charge, C 720 and two, E three
     * charges. At the root E is then 720 and two charges, A 1440 and one.
     */
    private static void leafBelowTheRoot() {
        check.part("promise 5: a node below the root becomes a leaf, and the root does not");
        String[] cases = {"0 2 210", "1 2 200", "1 1 0", "0 1 200"};
        CaseTree x = pruned(480, 3, "3 0", cases);
        check.node(x, 0, 1, 0, 0, 1440, 1440, 0);
        check.node(x, 1, -1, -1, 1, 0, 720, 0);
        check.node(x, 2, -1, -1, 0, 1440, 720, 0);
    }

    /** In the place of the root, node 1 has leaves of one class only; that is for the next call. */
    private static void lookedAtOnce() {
        check.part("promise 5: what takes the place of a node is not looked at again");
        CaseTree x = pruned(180, 5, "4 0", "1 3 0", "0 0 0", "0 3 10", "0 -1 0", "0 1 0", "1 3 20");
        check.node(x, 0, 1, 10, 0, 2880, 1440, 0);
        check.node(x, 1, 1, 0, 0, 2880, 720, 0);
        check.node(x, 2, -1, -1, 0, 2160, 720, 0);
        check.node(x, 3, -1, -1, 0, 720, 0, 0);
        check.due("prune(180) again", x.prune(180), 3);
        check.node(x, 1, -1, -1, 0, 2880, 720, 0);
    }

    /** Node 1 had the class weights 720, 0, 720 and parts of 720 each; node 2 had 720. */
    private static void sentDownAnew() {
        check.part("promise 5: weights, parts and K are worked out anew at each node, and so are classes");
        CaseTree x = raised();
        check.parts(x, 0, 2160, 720);
        check.node(x, 1, 2, -1, 0, 1440, 0, 720);
        check.parts(x, 1, 1440, 720);
        check.node(x, 2, -1, -1, 0, 1440, 0, 0);
        check.node(x, 3, -1, -1, 2, 0, 0, 720);
        check.node(x, 4, -1, -1, 2, 0, 0, 720);
        check.due("child(0, 1)", x.child(0, 1), 4);
        check.due("classify by the new parts", x.classify(-1, -1, -1, 0), 0);
        check.shares(x, 360, 0, 360);
        CaseTree other = Make.of("2 2", "2x 0 0 -1", "0 0 0", "1 1 1", "1 0 1");
        other.grow(1);
        check.due("classOf(2) as it was grown", other.classOf(2), 1);
        check.due("prune(0)", other.prune(0), 3);
        check.node(other, 0, 0, -1, 0, 2160, 1440, 0);
    }

    /** Below branch 0 of the root, whose class was 2 and becomes 0, stands a node without cases. */
    private static void classOfANodeWithoutWeight() {
        check.part("promise 5: a node with W = 0, whose class stays as it was");
        String[] cases = {"0 1 0", "2 0 2", "0 -1 -1", "0 0 0", "2 0 0"};
        CaseTree grown = Make.of("2 3", cases);
        check.due("grow(1)", grown.grow(1), 6);
        check.node(grown, 1, 1, -1, 2, 1260, 0, 1440);
        check.node(grown, 3, -1, -1, 2, 0, 0, 0);
        CaseTree x = pruned(0, 4, "2 3", cases);
        check.node(x, 0, 1, -1, 0, 2160, 0, 1440);
        check.node(x, 2, -1, -1, 2, 0, 0, 0);
    }

    private static void itsOwnCases() {
        check.part("promise 5: it is pruned with its own cases");
        CaseTree x = Make.of("2", "2x 0 0", "1 1");
        x.grow(1);
        Make.add(x, "6x 2 0", "5x 2 1", "2 -1");
        // what is asked of all cases in between does not matter
        check.due("wrong()", x.wrong(), 12);
        check.holds("gain(0, 1)", x.gain(0, 1) >= -2);
        check.due("prune(719)", x.prune(719), 3);
        check.node(x, 0, 0, -1, 0, 1440, 720, 0);
        check.parts(x, 0, 1440, 720);
        check.node(x, 2, -1, -1, 1, 0, 720, 0);
        check.due("prune(720)", x.prune(720), 1);
        check.node(x, 0, -1, -1, 0, 1440, 720, 0);
    }

    private static void theCasesOfTheLatestTree() {
        check.part("promise 5: the cases that there were when it was grown");
        CaseTree x = Make.of("2", "2x 0 0", "1 1");
        x.grow(1);
        Make.add(x, "1 1", "1 1", "0 0");
        x.grow(1);
        check.due("prune(720)", x.prune(720), 3);
        check.node(x, 0, 0, -1, 0, 2160, 2160, 0);
        check.node(x, 2, -1, -1, 1, 0, 2160, 0);
    }

    private static void prunedAgain() {
        check.part("promise 5: a pruned tree");
        CaseTree x = Make.of("2 3", "2 0 0", "0 0 1", "0 0 2", "2 1 1");
        x.grow(1);
        check.due("prune(719)", x.prune(719), 3);
        check.due("prune(719) again", x.prune(719), 3);
        check.due("prune(0)", x.prune(0), 3);
        check.node(x, 0, 0, -1, 0, 1440, 0, 1440);
        check.node(x, 1, -1, -1, 0, 1440, 0, 720);
        check.due("prune(720)", x.prune(720), 1);
        check.due("prune(0) of one leaf", x.prune(0), 1);
        check.due("grow(1)", x.grow(1), 6);
    }

    private static void chargeOfThisCall() {
        check.part("promise 5: with the charge, not with an earlier one");
        CaseTree x = pruned(2000, 1, "2", "2x 0 0", "1 1");
        x.grow(1);
        check.due("prune(719)", x.prune(719), 3);
        check.due("prune(0)", x.prune(0), 3);
        check.due("prune(720)", x.prune(720), 1);
    }

    private static void pruneLeavesTheRest() {
        check.part("promise 5: cases and shares stay");
        CaseTree x = Make.of("2", "2x 0 0", "1 1");
        x.grow(1);
        check.due("classify(1)", x.classify(1, 0, 0, 0), 1);
        x.prune(2000);
        check.shares(x, 0, 720, 0);
        check.due("cases()", x.cases(), 3);
        check.due("grow(1)", x.grow(1), 3);
    }
}
