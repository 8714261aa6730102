/**
 * Promise 4, sentence by sentence: grow, and what the terms say of classes, tests, growing and
 * sending down. Weights are told as they are; a case at the root has 720.
 */
public final class GrowingEdgesTest {
    private static final Check check = new Check();
    private static final int LOW = Integer.MIN_VALUE;
    private static final int HIGH = Integer.MAX_VALUE;

    public static void main(String[] args) {
        minimums();
        withoutCases();
        badAndNoneAtOnce();
        refusedLeavesTheTree();
        inPlaceOfTheOneThereWas();
        withoutAttributes();
        oneCase();

        lowestClass();
        classOfTheNodeAbove();
        ownClassOfALightNode();

        upToTheThreshold();
        partOf719And720();
        weightOf1439And1440();
        weightForEachMinimum();
        oneClass();
        lightSecondClass();
        gainOfZeroAndBelow();
        gainJustAboveZero();
        gainAroundZeroAtANode();
        depthOfThree();
        discreteOnce();

        atTheAverage();
        belowTheAverage();
        halfBelowTheAverage();
        averageOfGainsAboveZero();
        averageOfThoseWithATest();
        ratioComparedExactly();
        lowestAttribute();

        branchWithoutPart();
        sharesRoundedDown();
        restIntoTheFirstGreatest();
        meanAtANode();
        valuesOfCasesAtTheNode();
        valueOfALightCase();
        treeStaysWhenCasesAreAdded();
        check.end();
    }

    private static void minimums() {
        check.part("promise 4: BAD when minimum is not 1 .. 5");
        CaseTree x = Make.of("2", "6x 0 0", "6x 1 1");
        int[][] due = {{LOW, -1}, {-1, -1}, {0, -1}, {1, 3}, {2, 3}, {3, 3}, {4, 3}, {5, 3}, {6, -1}, {7, -1}, {HIGH, -1}};
        for (int[] pair : due) {
            check.due("grow(" + pair[0] + ")", x.grow(pair[0]), pair[1]);
        }
    }

    private static void withoutCases() {
        check.part("promise 4: NONE when there are no cases");
        CaseTree x = Make.of("2");
        check.due("grow(1)", x.grow(1), CaseTree.NONE);
        check.due("grow(5)", x.grow(5), CaseTree.NONE);
        check.due("nodes()", x.nodes(), 0);
        check.due("classify", x.classify(0, 0, 0, 0), CaseTree.NONE);
        Make.add(x, "0 0");
        check.due("grow(1) with one case", x.grow(1), 1);
    }

    private static void badAndNoneAtOnce() {
        check.part("promise 4: BAD and NONE at once");
        CaseTree x = Make.of("2");
        check.due("grow(0)", x.grow(0), CaseTree.BAD);
        check.due("grow(6)", x.grow(6), CaseTree.BAD);
    }

    private static void refusedLeavesTheTree() {
        check.part("promise 4: the tree that there was stays then");
        String[] cases = {"0 0 5", "1 1 7", "2 1 9", "1 -1 8", "0 0 -1"};
        CaseTree x = Make.of("2 0", cases);
        CaseTree y = Make.of("2 0", cases);
        check.due("grow(1)", x.grow(1), y.grow(1));
        x.grow(0);
        x.grow(6);
        x.grow(-1);
        check.same(x, y);
    }

    private static void inPlaceOfTheOneThereWas() {
        check.part("promise 4: in place of the one there was");
        String[] cases = {"0 0 5", "1 1 7", "2 1 9", "1 -1 8", "0 0 -1", "2 1 9"};
        CaseTree x = Make.of("2 0", cases);
        check.due("grow(1)", x.grow(1), 5);
        check.due("grow(5)", x.grow(5), 1);
        check.due("nodes()", x.nodes(), 1);
        check.node(x, 0, -1, -1, 0, 1440, 1440, 1440);
        check.node(x, 1, -1, -1, -1, -1, -1, -1);
        x.prune(2000);
        x.grow(1);
        CaseTree y = Make.of("2 0", cases);
        y.grow(1);
        check.same(x, y);
    }

    private static void withoutAttributes() {
        check.part("promise 4: without attributes it is one leaf");
        CaseTree x = Make.of("", "11x 1", "13x 2");
        check.due("grow(1)", x.grow(1), 1);
        check.node(x, 0, -1, -1, 2, 0, 11 * 720, 13 * 720);
        check.due("classify", x.classify(LOW, 1000, -2, HIGH), 2);
    }

    private static void oneCase() {
        check.part("promise 4: one case");
        CaseTree x = Make.of("2 0", "2 1 999");
        check.due("grow(1)", x.grow(1), 1);
        check.node(x, 0, -1, -1, 2, 0, 0, 720);
    }

    private static void lowestClass() {
        check.part("promise 4: the class with the greatest class weight, the lowest of several");
        String[][] cases = {{"0", "1"}, {"1", "2"}, {"0", "2"}, {"2", "1", "0"}, {"2", "1"}, {"0", "2x 1"},
            {"0", "2x 2", "1"}, {"2x 1", "2x 2", "0"}, {"2x 0", "2"}};
        int[] due = {0, 1, 0, 0, 1, 1, 2, 1, 0};
        for (int i = 0; i < due.length; i++) {
            CaseTree x = Make.of("", cases[i]);
            x.grow(1);
            check.due("classOf(0) of " + String.join(", ", cases[i]), x.classOf(0), due[i]);
        }
    }

    /** Node 5 is below node 2, whose class is 2; that of the root is 0. */
    private static void classOfTheNodeAbove() {
        check.part("promise 4: of a node with W = 0 the class of the node above it");
        CaseTree x = Make.of("2 3", "2x 0 0 0", "0 0 1", "0 0 2", "1 1 0", "2x 2 1 1");
        check.due("grow(1)", x.grow(1), 6);
        check.node(x, 0, 0, -1, 0, 2880, 720, 1440);
        check.node(x, 2, 1, -1, 2, 0, 720, 1440);
        check.node(x, 5, -1, -1, 2, 0, 0, 0);
        CaseTree top = Make.of("4", "2 0", "1 2");
        check.due("grow(1)", top.grow(1), 5);
        check.node(top, 0, 0, -1, 1, 0, 720, 720);
        check.node(top, 2, -1, -1, 1, 0, 0, 0);
        check.node(top, 4, -1, -1, 1, 0, 0, 0);
    }

    /** Node 2 has less than the weight of one case, and not the class of node 1 above it. */
    private static void ownClassOfALightNode() {
        check.part("promise 4: of a node with W just above 0 its own class");
        CaseTree x = Make.of("3 2", "1 0 -1", "0 1 0", "1 1 1", "0 2 0");
        check.due("grow(1)", x.grow(1), 6);
        check.node(x, 1, 0, -1, 0, 1440, 480, 0);
        check.node(x, 2, -1, -1, 1, 0, 480, 0);
    }

    private static void upToTheThreshold() {
        check.part("promise 4: branch 0 for values up to t, branch 1 for those above it");
        CaseTree x = Make.of("0", "2x 0 7", "0 6", "2x 1 8", "1 9");
        check.due("grow(3)", x.grow(3), 3);
        check.node(x, 0, 0, 7, 0, 2160, 2160, 0);
        check.parts(x, 0, 2160, 2160);
        check.node(x, 1, -1, -1, 0, 2160, 0, 0);
        check.node(x, 2, -1, -1, 1, 0, 2160, 0);
    }

    /**
     * At node 1 attribute 0 has parts of 720 and 1320: it is tested. At node 4 attribute 2 would
     * have parts of 974 and 719 and a gain: it is not.
     */
    private static void partOf719And720() {
        check.part("promise 4: a part at and just below 720 * minimum");
        CaseTree x = Make.of("4 2 0", "1 -1 -1 10", "0 3 0 0", "1 2 0 0", "0 2 1 0", "0 -1 0 0", "0 -1 0 10",
                "1 3 -1 0", "0 -1 0 10");
        check.due("grow(1)", x.grow(1), 7);
        check.node(x, 1, 0, -1, 0, 2880, 1920, 0);
        check.parts(x, 1, 0, 0, 720, 1320);
        check.node(x, 4, -1, -1, 1, 762, 931, 0);
    }

    /**
     * At node 4 attribute 2 would have parts of 719 and 720. In the second tree the two cases of
     * node 2 have 1440, in parts of 720.
     */
    private static void weightOf1439And1440() {
        check.part("promise 4: a leaf when its W is below 1440 * minimum");
        CaseTree x = Make.of("0 2 0", "1 -1 1 0", "1 -1 1 10", "0 0 -1 0", "0 10 1 20", "0 0 0 0", "0 -1 -1 0",
                "2 0 1 0");
        check.due("grow(1)", x.grow(1), 5);
        check.node(x, 2, 0, 0, 0, 1872, 1440, 720);
        check.node(x, 4, -1, -1, 0, 925, 514, 0);
        CaseTree at = Make.of("2 2", "2x 0 0 0", "1 1 0", "2 1 1");
        check.due("grow(1)", at.grow(1), 5);
        check.node(at, 2, 1, -1, 1, 0, 720, 720);
    }

    private static void weightForEachMinimum() {
        for (int m = 1; m <= 5; m++) {
            check.part("promise 4: W at and below 1440 * " + m);
            check.due("at", Make.of("2", m + "x 0 0", m + "x 1 1").grow(m), 3);
            check.due("below", Make.of("2", m + "x 0 0", (m - 1) + "x 1 1").grow(m), 1);
            check.due("below, continuous", Make.of("0", (m - 1) + "x 0 5", m + "x 1 6").grow(m), 1);
            check.due("at, continuous", Make.of("0", m + "x 0 5", m + "x 1 6").grow(m), 3);
        }
    }

    private static void oneClass() {
        check.part("promise 4: a leaf when at most one class weight is above 0");
        for (int type = 0; type < 3; type++) {
            CaseTree x = Make.of("2 0", "2x " + type + " 0 1", "2x " + type + " 1 2");
            check.due("grow(1) with class " + type + " only", x.grow(1), 1);
            check.due("classOf(0)", x.classOf(0), type);
        }
        check.due("grow(1) with two", Make.of("2 0", "2x 0 0 1", "2x 1 1 2").grow(1), 3);
    }

    /** At node 7 class 0 has the weight 97 of a single case, which came there in shares. */
    private static CaseTree light() {
        return Make.of("3 3 0", "1 -1 2 20", "0 0 -1 0", "1 1 2 0", "1 -1 2 20", "1 -1 -1 10", "1 0 0 0", "0 0 0 0",
                "0 2 2 0", "0 -1 -1 10", "0 0 0 0", "1 0 1 0", "3x 0 0 0 0", "1 0 -1 0");
    }

    private static void lightSecondClass() {
        check.part("promise 4: no leaf when a second class weight is just above 0");
        CaseTree x = light();
        check.due("grow(1)", x.grow(1), 11);
        check.node(x, 7, 2, 0, 1, 97, 1347, 0);
        check.node(x, 8, -1, -1, 1, 0, 720, 0);
        check.node(x, 9, -1, -1, 1, 97, 627, 0);
    }

    /** The gains are worked out in MeasuringEdgesTest. */
    private static void gainOfZeroAndBelow() {
        check.part("promise 4: a leaf when no attribute has a test with a gain above 0");
        check.due("discrete, 0", Make.of("2", "0 0", "0 1", "1 0", "1 1").grow(1), 1);
        check.due("discrete, below", Make.of("2", "3x 0 0", "4x 1 0", "2x 0 1", "3x 1 1").grow(1), 1);
        check.due("continuous, 0", Make.of("0", "1 0", "1 1", "2 1", "0 4", "1 5", "1 6").grow(1), 1);
        check.due("continuous, below", Make.of("0", "0 0", "0 1", "2 1", "0 2", "2x 1 2", "3x 2 2", "2x 2 3", "0 4",
                "2 4").grow(1), 1);
        check.due("no test", Make.of("2 0", "0 0 5", "1 0 5").grow(1), 1);
        check.due("not known", Make.of("2 0", "2x 0 -1 -1", "2x 1 -1 -1").grow(1), 1);
    }

    private static void gainJustAboveZero() {
        check.part("promise 4: no leaf when a gain is just above 0");
        CaseTree discrete = Make.of("2", "0 0", "0 1", "5x 1 0", "4x 1 1");
        check.due("gain(0, 1)", discrete.gain(0, 1), 1440);
        check.due("grow(1)", discrete.grow(1), 3);
        CaseTree continuous = Make.of("0", "1 0", "2x 0 1", "0 2", "2x 1 2", "4x 0 3", "1 3");
        check.due("gain(0, 1)", continuous.gain(0, 1), 720);
        check.due("grow(1)", continuous.grow(1), 7);
        check.due("threshold(0)", continuous.threshold(0), 0);
    }

    /** Below branch 0 of the root, where some cases are in shares, attribute 1 has a gain of 3 or of -2. */
    private static void gainAroundZeroAtANode() {
        check.part("promise 4: a gain just above and just below 0");
        CaseTree above = Make.of("2 2", "2x 1 0 0", "2x 1 0 1", "2x 1 0 -1", "0 -1 0", "0 -1 1", "1 -1 0", "5x 2 1 -1");
        check.due("grow(1)", above.grow(1), 5);
        check.node(above, 1, 1, -1, 1, 786, 4713, 0);
        check.parts(above, 1, 2226, 1833);
        check.due("its gain", information(786, 3273) - information(393, 1833) - information(393, 1440), 3);
        CaseTree below = Make.of("2 3", "0 0 0", "0 0 1", "0 0 2", "3x 1 0 0", "2x 1 0 1", "1 0 2", "0 -1 0", "1 -1 2",
                "5x 2 1 -1");
        check.due("grow(1)", below.grow(1), 3);
        check.node(below, 1, -1, -1, 1, 2623, 4783, 0);
        check.due("its gain", information(2623, 4783) - information(1183, 2160) - information(720, 1440)
                - information(720, 1183), -2);
    }

    /** Each test takes the lowest value away; the last two values stay together at depth 3. */
    private static void depthOfThree() {
        check.part("promise 4: a leaf when its depth is 3");
        CaseTree x = Make.of("0", "9x 0 0", "6x 1 10", "4x 2 20", "3x 0 30", "2x 1 40");
        check.due("grow(1)", x.grow(1), 7);
        check.node(x, 2, 0, 10, 1, 2160, 5760, 2880);
        check.node(x, 4, 0, 20, 2, 2160, 1440, 2880);
        check.node(x, 6, -1, -1, 0, 2160, 1440, 0);
        CaseTree last = Make.of("0", "3x 0 30", "2x 1 40");
        check.due("grow(1) of those at node 6", last.grow(1), 3);
    }

    /** In the third tree attribute 1 is tested at two nodes, none above the other. */
    private static void discreteOnce() {
        check.part("promise 4: no test of a discrete attribute that is tested at a node above");
        CaseTree x = Make.of("2", "3x 0 0", "0 1", "2x 1 1", "2x 1 -1", "0 -1");
        check.due("grow(1)", x.grow(1), 3);
        check.due("tested(0)", x.tested(0), 0);
        check.due("tested(1)", x.tested(1), -1);
        check.due("tested(2)", x.tested(2), -1);
        CaseTree continuous = Make.of("0", "2x 0 1", "2x 1 2", "2x 2 3");
        check.due("grow(1)", continuous.grow(1), 5);
        check.due("tested(0)", continuous.tested(0), 0);
        check.due("a continuous one again", continuous.tested(2), 0);
        CaseTree beside = Make.of("2 2", "2x 0 0 0", "2x 1 0 1", "2x 1 1 0", "2x 2 1 1");
        check.due("grow(1)", beside.grow(1), 7);
        check.due("tested(1)", beside.tested(1), 1);
        check.due("tested(4)", beside.tested(4), 1);
    }

    /** Gains of 231, 425 and 37 units: the first is the average, and its ratio the greatest. */
    private static void atTheAverage() {
        check.part("promise 4: those count whose gain is not below the average, at it");
        CaseTree x = Make.of("2 3 2", "0 0 0 0", "0 0 1 0", "0 0 2 1", "2x 1 0 0 0", "1 0 0 1", "1 1 1 1");
        check.due("gain(0, 1)", x.gain(0, 1), 231 * 720);
        check.due("gain(1, 1)", x.gain(1, 1), 425 * 720);
        check.due("gain(2, 1)", x.gain(2, 1), 37 * 720);
        check.due("grow(1)", x.grow(1), 8);
        check.due("tested(0)", x.tested(0), 0);
        CaseTree equal = Make.of("0 2 3 4", "0 1 1 1 1", "1 2 0 0 0");
        check.due("grow(1) with four equal gains", equal.grow(1), 3);
    }

    /** Gains of 652, 1057 and 248 units: the average is 652 1/3, and the first has the best ratio. */
    private static void belowTheAverage() {
        check.part("promise 4: those count whose gain is not below the average, below it");
        CaseTree x = Make.of("2 3 4", "0 0 1 0", "0 1 1 1", "2x 1 0 0 0", "2x 1 0 0 1", "1 0 1 2", "1 0 2 3",
                "1 0 2 -1");
        check.due("gain(0, 1)", x.gain(0, 1), 652 * 720);
        check.due("gain(1, 1)", x.gain(1, 1), 1057 * 720);
        check.due("gain(2, 1)", x.gain(2, 1), 248 * 720);
        check.due("grow(1)", x.grow(1), 8);
        check.due("tested(0)", x.tested(0), 1);
    }

    /**
     * At node 1, among weights of 720 and of 221, attribute 1 has a gain of 186872 and the better
     * ratio, attribute 2 one of 186873.
     */
    private static void halfBelowTheAverage() {
        check.part("promise 4: those count whose gain is not below the average, a half below it");
        CaseTree x = Make.of("2 3 4", "0 0 1 0", "1 0 0 0", "1 0 0 1", "1 0 2 2", "0 -1 0 0", "0 -1 -1 1",
                "1 -1 1 0", "1 -1 1 3", "1 -1 1 -1", "9x 2 1 -1 -1");
        check.due("grow(1)", x.grow(1), 10);
        check.node(x, 1, 2, -1, 1, 1162, 2823, 0);
        check.parts(x, 1, 1882, 941, 720, 221);
        long first = information(1162 - 221, 2823) - information(221, 1440) - information(720, 663)
                - information(0, 720);
        long second = information(1162, 2602) - information(941, 941) - information(221, 720) - information(0, 720)
                - information(0, 221);
        check.due("gain of attribute 1 there", first, 186872);
        check.due("gain of attribute 2 there", second, 186873);
    }

    private static long information(int... weights) {
        return Reference.information(weights);
    }

    /** With attribute 1, whose gain is below 0, the average would fall below that of attribute 2. */
    private static void averageOfGainsAboveZero() {
        check.part("promise 4: the average of the tests with a gain above 0");
        CaseTree x = Make.of("3 0 0", "2 1 10 0", "1 2 20 10", "1 0 0 20");
        check.due("gain(0, 1)", x.gain(0, 1), 706 * 720);
        check.due("gain(1, 1)", x.gain(1, 1), -2);
        check.due("gain(2, 1)", x.gain(2, 1), 450 * 720);
        check.due("grow(1)", x.grow(1), 4);
        check.due("tested(0)", x.tested(0), 0);
    }

    /** Attribute 0 has no test; with it the average of three would be below the gain of attribute 1. */
    private static void averageOfThoseWithATest() {
        check.part("promise 4: an attribute without a test does not count");
        CaseTree x = Make.of("2 0 3", "2 0 0 0", "0 0 0 1", "1 0 10 2");
        check.due("gain(0, 1)", x.gain(0, 1), -1);
        check.due("grow(1)", x.grow(1), 4);
        check.due("tested(0)", x.tested(0), 2);
    }

    /** 1536 / 9661 is below 1429 / 8988 by a part in 14 millions. */
    private static void ratioComparedExactly() {
        check.part("promise 4: the greatest ratio, compared exactly");
        String[] cases = {"0 0 0 0", "2x 0 0 2 0", "2x 0 2 -1 0", "0 2 -1 1", "0 3 -1 1", "0 -1 -1 1",
            "3x 1 0 0 0", "1 1 1 0", "2x 1 1 1 1", "1 3 3 1", "2x 1 -1 -1 1"};
        CaseTree x = Make.of("4 4 2", cases);
        check.due("gain(0, 1)", x.gain(0, 1), 1536 * 720);
        check.due("split(0, 1)", x.split(0, 1), 9661 * 720);
        check.due("gain(1, 1)", x.gain(1, 1), 1429 * 720);
        check.due("split(1, 1)", x.split(1, 1), 8988 * 720);
        x.grow(1);
        check.due("tested(0)", x.tested(0), 1);
        CaseTree thousandth = Make.of("3 4 2", "1 0 0 0", "3x 1 0 2 0", "2 1 0 0", "2 1 3 0", "2 2 3 0", "2 2 1 0",
                "0 1 1 0", "2 0 3 1");
        thousandth.grow(1);
        check.due("1773360 / 3636000 against 1334880 / 2739600", thousandth.tested(0), 1);
        CaseTree tenThousandth = Make.of("3 2 2", "0 2 0 1", "0 1 0 1", "0 0 0 1", "0 1 1 1", "1 2 0 1", "0 2 0 1",
                "0 1 0 1", "0 2 0 0", "2x 1 2 0 0");
        tenThousandth.grow(1);
        check.due("354240 / 1626480 against 520560 / 2390400", tenThousandth.tested(0), 2);
    }

    private static void lowestAttribute() {
        check.part("promise 4: of several with one ratio the one of the lowest attribute");
        CaseTree alike = Make.of("2 2 2", "0 0 0 1", "0 1 0 1", "1 0 1 0", "1 1 1 0");
        alike.grow(1);
        check.due("tested(0), equal gains", alike.tested(0), 1);
        CaseTree lesser = Make.of("2 2 0", "2 0 1 0", "1 0 0 10", "1 1 0 10", "0 0 0 0");
        check.due("gain(1, 1)", lesser.gain(1, 1), lesser.split(1, 1));
        check.due("gain(2, 1)", lesser.gain(2, 1), lesser.split(2, 1));
        check.holds("the second gain is greater", lesser.gain(2, 1) > lesser.gain(1, 1));
        lesser.grow(1);
        check.due("tested(0), a lesser gain", lesser.tested(0), 1);
        CaseTree greater = Make.of("2 2 2", "2 0 0 0", "1 0 1 0", "0 1 0 0", "0 1 0 1");
        check.holds("the first gain is greater", greater.gain(0, 1) > greater.gain(1, 1));
        greater.grow(1);
        check.due("tested(0), a greater gain", greater.tested(0), 0);
    }

    private static void branchWithoutPart() {
        check.part("promise 4: each branch leads to a node, also where its part is 0");
        CaseTree x = Make.of("4", "2x 0 1", "2x 1 3");
        check.due("grow(1)", x.grow(1), 5);
        check.parts(x, 0, 0, 1440, 0, 1440);
        for (int branch = 0; branch < 4; branch++) {
            check.due("child(0, " + branch + ")", x.child(0, branch), 1 + branch);
        }
        check.node(x, 1, -1, -1, 0, 0, 0, 0);
        check.node(x, 3, -1, -1, 0, 0, 0, 0);
    }

    /** 720 * 3 / 7 is 308.6, 720 * 4 / 7 is 411.4; the rest of 1 goes with the greater part. */
    private static void sharesRoundedDown() {
        check.part("promise 4: w * part / K, rounded down, and the rest into the greatest part");
        CaseTree x = Make.of("2", "3x 0 0", "4x 1 1", "2 -1");
        check.due("grow(1)", x.grow(1), 3);
        check.parts(x, 0, 2160, 2880);
        check.node(x, 1, -1, -1, 0, 2160, 0, 308);
        check.node(x, 2, -1, -1, 1, 0, 2880, 412);
        CaseTree whole = Make.of("2", "2x 0 0", "2x 1 1", "2 -1");
        check.due("grow(1)", whole.grow(1), 3);
        check.node(whole, 1, -1, -1, 0, 1440, 0, 360);
        check.node(whole, 2, -1, -1, 1, 0, 1440, 360);
    }

    /** With parts of 1, 3 and 3 of 7 cases: 102, 308 and 308, and a rest of 2. */
    private static void restIntoTheFirstGreatest() {
        check.part("promise 4: the first of several greatest parts");
        CaseTree x = Make.of("3", "1 0", "3x 0 1", "3x 1 2", "2 -1");
        check.due("grow(1)", x.grow(1), 4);
        check.node(x, 1, -1, -1, 1, 0, 720, 102);
        check.node(x, 2, -1, -1, 0, 2160, 0, 310);
        check.node(x, 3, -1, -1, 1, 0, 2160, 308);
        CaseTree first = Make.of("3", "3x 0 0", "3x 1 1", "1 2", "2 -1");
        check.due("grow(1)", first.grow(1), 4);
        check.node(first, 1, -1, -1, 0, 2160, 0, 310);
        check.node(first, 2, -1, -1, 1, 0, 2160, 308);
        check.node(first, 3, -1, -1, 1, 0, 720, 102);
    }

    /** At node 2 there are the values 10 and high; the others stand at node 1. */
    private static int thresholdAtNode2(int high, int... others) {
        CaseTree x = Make.of("2 0", "2x 1 1 10", "2x 2 1 " + high, "0 0 45");
        for (int other : others) {
            Make.add(x, "0 0 " + other);
        }
        x.grow(1);
        check.due("tested(2)", x.tested(2), 1);
        return x.threshold(2);
    }

    private static void meanAtANode() {
        check.part("promise 4: the greatest value not above (x + y) / 2 that any case has, at the node or not");
        check.due("45 below the mean 50", thresholdAtNode2(90, 5, 45, 70), 45);
        check.due("50 at the mean 50", thresholdAtNode2(90, 50, 46), 50);
        check.due("51 above the mean 50", thresholdAtNode2(90, 51, 46), 46);
        check.due("50 at the mean 50 1/2, rounded down", thresholdAtNode2(91, 50, 46), 50);
        check.due("51 above the mean 50 1/2", thresholdAtNode2(91, 51, 46), 46);
        check.due("none between: x itself", thresholdAtNode2(40, 9, 26), 10);
        check.due("25 at the mean 25", thresholdAtNode2(40, 25, 26), 25);
    }

    /** If 45 and 70 were values at node 2, there would be three tests and a threshold of 10. */
    private static void valuesOfCasesAtTheNode() {
        check.part("promise 4: two values that cases at the node have, weight 0 is not at it");
        CaseTree x = Make.of("2 0", "2x 1 1 10", "2x 2 1 90", "2x 0 0 45", "0 0 70");
        check.due("grow(1)", x.grow(1), 5);
        check.node(x, 2, 1, 45, 1, 0, 1440, 1440);
    }

    /**
     * At node 7 the value 10 is only of cases with the weight 97. Without them the only threshold
     * would be 10, for the mean of 0 and 20, with a part too small.
     */
    private static void valueOfALightCase() {
        check.part("promise 4: two values that cases at the node have, a weight just above 0 is at it");
        CaseTree x = light();
        x.grow(1);
        check.node(x, 7, 2, 0, 1, 97, 1347, 0);
        check.parts(x, 7, 720, 724);
    }

    private static void treeStaysWhenCasesAreAdded() {
        check.part("promise 4: when others are added the tree stays as it is");
        CaseTree x = Make.of("2 0", "2x 1 1 10", "2x 2 1 90", "2x 0 0 45");
        check.due("grow(1)", x.grow(1), 5);
        Make.add(x, "2x 0 0 50", "2 -1 -1");
        check.due("nodes()", x.nodes(), 5);
        check.node(x, 0, 0, -1, 0, 1440, 1440, 1440);
        check.parts(x, 0, 1440, 2880);
        check.node(x, 2, 1, 45, 1, 0, 1440, 1440);
        check.node(x, 3, -1, -1, 1, 0, 1440, 0);
        check.due("grow(1) with all of them", x.grow(1), 5);
        check.node(x, 0, 0, -1, 0, 2880, 1440, 2160);
        check.parts(x, 0, 2880, 2880);
        check.node(x, 2, 1, 50, 2, 0, 1440, 1800);
    }
}
