/** Promises 6, 7 and 8, sentence by sentence: classify, share, wrong. */
public final class ClassifyingEdgesTest {
    private static final Check check = new Check();
    private static final int BAD = CaseTree.BAD;
    private static final int NONE = CaseTree.NONE;
    private static final int LOW = Integer.MIN_VALUE;
    private static final int HIGH = Integer.MAX_VALUE;

    public static void main(String[] args) {
        valuesOfEachKind();
        valuesOfNoAttribute();
        withoutATree();
        badAndNoneAtOnce();
        refusedLeavesTheShares();
        lowestClass();

        upToTheThreshold();
        valueOfNoCase();
        sharesOfTheUnknown();
        restIntoTheFirstGreatest();
        unknownMoreThanOnce();
        unknownAtFourBranches();
        unknownAtTwoNodesOfOneDepth();
        leavesAtDepthThree();
        leafWithoutWeight();
        restToTheOwnClass();
        lightClass();
        partsThatTheTreeHas();
        partsOfAPrunedTree();

        sharesOfClasses();
        sharesBeforeAnyAnswer();
        sharesOfTheLatestAnswer();
        sharesStay();

        wrongWithoutATree();
        wrongOfNone();
        wrongOfAll();
        wrongOfTheFirstAndTheLast();
        wrongOfTheCasesThatThereAreNow();
        wrongWithUnknownValues();
        wrongLeavesTheShares();
        check.end();
    }

    /** Four attributes of one kind, so that each place of classify is tried with each kind. */
    private static void valuesOfEachKind() {
        int[][] kinds = {{2, 1}, {3, 2}, {4, 3}, {0, 999}};
        for (int[] kind : kinds) {
            check.part("promise 6: BAD when a value is neither UNKNOWN nor one of the attribute, kind " + kind[0]);
            int top = kind[1];
            int[][] due = {{LOW, BAD}, {-3, BAD}, {-2, BAD}, {-1, 2}, {0, 2}, {1, 2}, {top, 2}, {top + 1, BAD},
                {top + 2, BAD}, {1000, BAD}, {HIGH, BAD}};
            for (int place = 0; place < 4; place++) {
                CaseTree x = Make.of((kind[0] + " ").repeat(4), "2 0 0 0 0");
                x.grow(1);
                for (int[] pair : due) {
                    int[] row = new int[4];
                    row[place] = pair[0];
                    check.due("value " + pair[0] + " in place " + place,
                            x.classify(row[0], row[1], row[2], row[3]), pair[1]);
                }
            }
        }
    }

    private static void valuesOfNoAttribute() {
        check.part("promise 6: the values of attributes that there are not are not looked at");
        int[] wild = {LOW, -2, 1000, HIGH};
        for (int attributes = 0; attributes < 4; attributes++) {
            CaseTree x = Make.of("2 ".repeat(attributes), "0 0 0 0 0", "2x 1 1 1 1 1");
            x.grow(1);
            for (int i = 0; i < 4; i++) {
                int[] row = {1, 1, 1, 1};
                for (int place = attributes; place < 4; place++) {
                    row[place] = wild[(place + i) % 4];
                }
                check.due("classify with " + attributes, x.classify(row[0], row[1], row[2], row[3]), 1);
            }
        }
    }

    private static void withoutATree() {
        check.part("promise 6: NONE when there is no tree");
        CaseTree x = Make.of("2", "0 0", "1 1");
        check.due("classify(0)", x.classify(0, 0, 0, 0), NONE);
        x.grow(0);
        check.due("classify(-1)", x.classify(-1, 0, 0, 0), NONE);
        x.grow(1);
        check.due("classify(1)", x.classify(1, 0, 0, 0), 1);
    }

    private static void badAndNoneAtOnce() {
        check.part("promise 6: BAD and NONE at once");
        CaseTree x = Make.of("2 0", "0 0 0");
        check.due("classify(2, 0)", x.classify(2, 0, 0, 0), BAD);
        check.due("classify(0, 1000)", x.classify(0, 1000, 0, 0), BAD);
        check.due("classify(-2, 0)", x.classify(-2, 0, 0, 0), BAD);
    }

    private static void refusedLeavesTheShares() {
        check.part("promise 6: what a refused call leaves");
        CaseTree x = Make.of("2", "0 0", "1 1");
        x.classify(0, 0, 0, 0);
        check.shares(x, 0, 0, 0);
        x.grow(1);
        x.classify(2, 0, 0, 0);
        check.shares(x, 0, 0, 0);
        x.classify(1, 0, 0, 0);
        x.classify(2, 0, 0, 0);
        x.classify(-2, 0, 0, 0);
        check.shares(x, 0, 720, 0);
        CaseTree y = Make.of("2", "0 0", "1 1");
        y.grow(1);
        y.classify(1, 0, 0, 0);
        check.same(x, y);
    }

    private static void lowestClass() {
        check.part("promise 6: the class with the greatest share, the lowest of several");
        String[][] cases = {{"0 0", "1 1"}, {"2 0", "1 1"}, {"2 0", "0 1"}, {"2 0", "1 1", "0 2"},
            {"0 0", "2x 1 1"}, {"0 0", "1 1", "2x 2 2"}, {"2x 2 0", "2x 1 1", "0 2"}};
        int[] due = {0, 1, 0, 0, 1, 2, 1};
        for (int i = 0; i < due.length; i++) {
            CaseTree x = Make.of("3", cases[i]);
            x.grow(1);
            check.due("classify(-1) of " + String.join(", ", cases[i]), x.classify(-1, 0, 0, 0), due[i]);
        }
    }

    private static void upToTheThreshold() {
        check.part("promise 6: branch 0 for values up to the threshold, branch 1 above it");
        CaseTree x = Make.of("0", "0 500", "1 502");
        x.grow(1);
        check.due("threshold(0)", x.threshold(0), 500);
        int[][] due = {{0, 0}, {499, 0}, {500, 0}, {501, 1}, {502, 1}, {999, 1}};
        for (int[] pair : due) {
            check.due("classify(" + pair[0] + ")", x.classify(pair[0], 0, 0, 0), pair[1]);
            check.due("share(" + pair[1] + ")", x.share(pair[1]), 720);
        }
    }

    private static void valueOfNoCase() {
        check.part("promise 6: a value that no case of the tree has");
        CaseTree x = Make.of("4", "2x 1 0", "3x 2 2");
        x.grow(1);
        check.due("classify(1)", x.classify(1, 0, 0, 0), 2);
        check.shares(x, 0, 0, 720);
        check.due("classify(3)", x.classify(3, 0, 0, 0), 2);
        check.due("classify(0)", x.classify(0, 0, 0, 0), 1);
        check.shares(x, 0, 720, 0);
    }

    /** 720 * 3 / 7 is 308.6, 720 * 4 / 7 is 411.4; the rest of 1 goes with the greater part. */
    private static void sharesOfTheUnknown() {
        check.part("promise 6: in shares, rounded down, and the rest into the greatest part");
        CaseTree x = Make.of("2", "3x 0 0", "4x 1 1");
        x.grow(1);
        check.due("classify(-1)", x.classify(-1, 0, 0, 0), 1);
        check.shares(x, 308, 412, 0);
    }

    /** Parts of 3, 3 and 1 of 7 cases: 308, 308 and 102, and a rest of 2. */
    private static void restIntoTheFirstGreatest() {
        check.part("promise 6: the rest into the first of several greatest parts");
        CaseTree first = Make.of("3", "3x 1 0", "3x 0 1", "2 2");
        first.grow(1);
        check.due("classify(-1)", first.classify(-1, 0, 0, 0), 1);
        check.shares(first, 308, 310, 102);
        CaseTree second = Make.of("3", "2 0", "3x 1 1", "3x 0 2");
        second.grow(1);
        check.due("classify(-1)", second.classify(-1, 0, 0, 0), 1);
        check.shares(second, 308, 310, 102);
    }

    /** 411 of 720 into branch 1 of the root and a rest of 1; then 412 * 1 / 4 is 103. */
    private static void unknownMoreThanOnce() {
        check.part("promise 6: in shares at each test");
        CaseTree x = Make.of("2 2", "3x 0 0 0", "1 1 0", "3x 2 1 1");
        check.due("grow(1)", x.grow(1), 5);
        check.due("classify(-1, -1)", x.classify(-1, -1, 0, 0), 2);
        check.shares(x, 308, 103, 309);
        check.due("classify(-1, 0)", x.classify(-1, 0, 0, 0), 1);
        check.shares(x, 308, 412, 0);
    }

    /** Parts of 4, 3, 2 and 1 of 10 cases; the classes of the last two branches are one. */
    private static void unknownAtFourBranches() {
        check.part("promise 6: in shares, by four branches");
        CaseTree x = Make.of("4", "4x 2 0", "3x 1 1", "2x 0 2", "0 3");
        check.due("grow(1)", x.grow(1), 5);
        check.due("classify(-1)", x.classify(-1, 0, 0, 0), 2);
        check.shares(x, 216, 216, 288);
        CaseTree last = Make.of("4", "0 0", "1 1", "1 2", "2x 2 3");
        check.due("grow(1)", last.grow(1), 5);
        check.due("classify(-1)", last.classify(-1, 0, 0, 0), 1);
        check.shares(last, 144, 288, 288);
    }

    /** Below branch 0 attribute 1 has parts of 3 and 1 cases, below branch 1 attribute 2 of 1 and 1. */
    private static void unknownAtTwoNodesOfOneDepth() {
        check.part("promise 6: by the parts and the K of each test");
        CaseTree x = Make.of("2 2 2", "3x 0 0 0 -1", "1 0 1 -1", "1 1 -1 0", "2 1 -1 1");
        check.due("grow(1)", x.grow(1), 7);
        check.due("tested(1)", x.tested(1), 1);
        check.due("tested(4)", x.tested(4), 2);
        check.due("classify(0, -1, -1)", x.classify(0, -1, -1, 0), 0);
        check.shares(x, 540, 180, 0);
        check.due("classify(1, -1, -1)", x.classify(1, -1, -1, 0), 1);
        check.shares(x, 0, 360, 360);
        check.due("classify(-1, -1, -1)", x.classify(-1, -1, -1, 0), 0);
        check.shares(x, 360, 240, 120);
        check.due("classify(-1, 1, 1)", x.classify(-1, 1, 1, 0), 1);
        check.shares(x, 0, 480, 240);
    }

    /** Each test takes the lowest value away; at depth 3 three cases stand against two. */
    private static void leavesAtDepthThree() {
        check.part("promise 6: a leaf at each depth");
        CaseTree x = Make.of("0", "9x 0 0", "6x 1 10", "4x 2 20", "3x 0 30", "2x 1 40");
        check.due("grow(1)", x.grow(1), 7);
        int[][] due = {{0, 720, 0, 0}, {10, 0, 720, 0}, {20, 0, 0, 720}, {30, 432, 288, 0}, {40, 432, 288, 0}};
        int[] types = {0, 1, 2, 0, 0};
        for (int i = 0; i < 5; i++) {
            check.due("classify(" + due[i][0] + ")", x.classify(due[i][0], 0, 0, 0), types[i]);
            check.shares(x, due[i][1], due[i][2], due[i][3]);
        }
        check.due("classify(-1)", x.classify(-1, 0, 0, 0), 0);
        check.shares(x, 360, 240, 120);
    }

    private static void leafWithoutWeight() {
        check.part("promise 6: a leaf with W = 0 gives all to its class");
        CaseTree x = Make.of("2 3", "2x 0 0 0", "0 0 1", "0 0 2", "1 1 0", "2x 2 1 1");
        check.due("grow(1)", x.grow(1), 6);
        check.node(x, 5, -1, -1, 2, 0, 0, 0);
        check.due("classify(1, 2)", x.classify(1, 2, 0, 0), 2);
        check.shares(x, 0, 0, 720);
        check.due("classify(-1, 2)", x.classify(-1, 2, 0, 0), 0);
        check.shares(x, 412, 0, 308);
    }

    /** One leaf with 3, 3 and 1 of 7 cases: 308, 308 and 102, and the rest of 2 to class 1. */
    private static void restToTheOwnClass() {
        check.part("promise 6: a leaf with W above 0, rounded down, and the rest to its own class");
        CaseTree x = Make.of("", "0", "3x 1", "3x 2");
        x.grow(1);
        check.due("classify", x.classify(0, 0, 0, 0), 1);
        check.shares(x, 102, 310, 308);
        CaseTree even = Make.of("", "0", "2x 1", "2");
        even.grow(1);
        check.due("classify", even.classify(0, 0, 0, 0), 1);
        check.shares(even, 180, 360, 180);
    }

    /** Of the 720 of the unknown case 720 / 23 = 31 go into branch 1, and with them the tree gives. */
    private static void lightClass() {
        check.part("promise 6: w * class weight / W of a light class");
        CaseTree x = Make.of("2", "22x 1 0", "2 1", "0 -1");
        check.due("grow(1)", x.grow(1), 3);
        check.node(x, 1, -1, -1, 1, 689, 15840, 0);
        check.node(x, 2, -1, -1, 2, 31, 0, 720);
        check.due("classify(1)", x.classify(1, 0, 0, 0), 2);
        check.shares(x, 29, 0, 691);
        check.due("classify(-1)", x.classify(-1, 0, 0, 0), 1);
        check.shares(x, 29, 661, 30);
    }

    private static void partsThatTheTreeHas() {
        check.part("promise 6: by the parts and the K that the tree has, when cases were added");
        CaseTree x = Make.of("2", "3x 0 0", "4x 1 1");
        x.grow(1);
        Make.add(x, "9x 0 0", "2 -1");
        check.due("classify(-1)", x.classify(-1, 0, 0, 0), 1);
        check.shares(x, 308, 412, 0);
        x.grow(1);
        check.due("classify(-1) by a new tree", x.classify(-1, 0, 0, 0), 0);
    }

    /** Attribute 0 has parts of 720 and 720 as grown, of 2160 and 720 in the place of the root. */
    private static void partsOfAPrunedTree() {
        check.part("promise 6: by the parts that the tree has, when it was pruned");
        CaseTree x = Make.of("2 3", "2 0 0", "0 0 1", "0 0 2", "2 1 1");
        x.grow(1);
        check.due("classify(-1, 1) as grown", x.classify(-1, 1, 0, 0), 0);
        check.shares(x, 360, 0, 360);
        check.due("prune(719)", x.prune(719), 3);
        check.due("classify(1, 1)", x.classify(1, 1, 0, 0), 2);
        check.shares(x, 0, 0, 720);
        check.due("classify(0, 1)", x.classify(0, 1, 0, 0), 0);
        check.shares(x, 480, 0, 240);
        check.due("classify(-1, 1)", x.classify(-1, 1, 0, 0), 0);
        check.shares(x, 360, 0, 360);
    }

    private static void sharesOfClasses() {
        check.part("promise 7: 0 when type is not 0 .. 2");
        CaseTree x = Make.of("", "0", "2x 1", "2");
        x.grow(1);
        x.classify(0, 0, 0, 0);
        int[][] due = {{LOW, 0}, {-2, 0}, {-1, 0}, {0, 180}, {1, 360}, {2, 180}, {3, 0}, {4, 0}, {HIGH, 0}};
        for (int[] pair : due) {
            check.due("share(" + pair[0] + ")", x.share(pair[0]), pair[1]);
        }
    }

    private static void sharesBeforeAnyAnswer() {
        check.part("promise 7: 0 when there was none that answered a class");
        CaseTree x = Make.of("2", "0 0", "1 1");
        check.shares(x, 0, 0, 0);
        x.classify(0, 0, 0, 0);
        check.shares(x, 0, 0, 0);
        x.grow(1);
        check.shares(x, 0, 0, 0);
        x.classify(5, 0, 0, 0);
        check.shares(x, 0, 0, 0);
        x.wrong();
        check.shares(x, 0, 0, 0);
    }

    private static void sharesOfTheLatestAnswer() {
        check.part("promise 7: in the latest call of classify that answered a class");
        CaseTree x = Make.of("2", "0 0", "1 1");
        x.grow(1);
        x.classify(0, 0, 0, 0);
        check.shares(x, 720, 0, 0);
        x.classify(1, 0, 0, 0);
        check.shares(x, 0, 720, 0);
        x.classify(-1, 0, 0, 0);
        check.shares(x, 360, 360, 0);
        x.classify(2, 0, 0, 0);
        check.shares(x, 360, 360, 0);
        x.classify(1, 0, 0, 0);
        check.shares(x, 0, 720, 0);
    }

    private static void sharesStay() {
        check.part("promise 7: other calls leave the shares");
        CaseTree x = Make.of("2", "0 0", "1 1");
        x.grow(1);
        x.classify(-1, 0, 0, 0);
        Make.add(x, "2 0");
        check.shares(x, 360, 360, 0);
        x.prune(2000);
        check.shares(x, 360, 360, 0);
        x.grow(1);
        check.shares(x, 360, 360, 0);
        x.grow(9);
        x.add(9, 0, 0, 0, 0);
        x.attribute(2);
        x.gain(0, 1);
        check.shares(x, 360, 360, 0);
    }

    private static void wrongWithoutATree() {
        check.part("promise 8: NONE when there is no tree");
        check.due("wrong() of a new object", new CaseTree().wrong(), NONE);
        CaseTree x = Make.of("2", "0 0", "1 1");
        check.due("wrong() with cases", x.wrong(), NONE);
        x.grow(1);
        check.due("wrong() with a tree", x.wrong(), 0);
    }

    private static void wrongOfNone() {
        check.part("promise 8: how many, from 0");
        CaseTree x = Make.of("2", "12x 0 0", "12x 1 1");
        x.grow(1);
        check.due("wrong()", x.wrong(), 0);
        x.prune(2000);
        check.due("wrong() of the pruned tree", x.wrong(), 0);
        CaseTree leaf = Make.of("", "12x 0", "8x 1", "4x 2");
        leaf.grow(1);
        check.due("wrong() of one leaf", leaf.wrong(), 12);
    }

    private static void wrongOfAll() {
        check.part("promise 8: how many, to all but those of the tree");
        CaseTree x = Make.of("2", "0 0");
        x.grow(1);
        Make.add(x, "23x 1 0");
        check.due("wrong()", x.wrong(), 23);
        check.due("wrong() again", x.wrong(), 23);
    }

    private static void wrongOfTheFirstAndTheLast() {
        check.part("promise 8: the first and the last case");
        CaseTree first = Make.of("", "1", "23x 0");
        first.grow(1);
        check.due("wrong()", first.wrong(), 1);
        CaseTree last = Make.of("", "23x 0", "1");
        last.grow(1);
        check.due("wrong()", last.wrong(), 1);
    }

    private static void wrongOfTheCasesThatThereAreNow() {
        check.part("promise 8: of the cases that there are now");
        CaseTree x = Make.of("2", "0 0", "1 1");
        x.grow(1);
        check.due("wrong()", x.wrong(), 0);
        Make.add(x, "0 1");
        check.due("wrong() with one more", x.wrong(), 1);
        Make.add(x, "0 0");
        check.due("wrong() with one that is right", x.wrong(), 1);
        Make.add(x, "2 0", "2 1");
        check.due("wrong() with a class that the tree has not", x.wrong(), 3);
        x.add(2, 2, 0, 0, 0);
        check.due("wrong() behind a refused one", x.wrong(), 3);
    }

    private static void wrongWithUnknownValues() {
        check.part("promise 8: each with its values");
        CaseTree x = Make.of("2 0", "0 0 5", "1 1 5");
        x.grow(1);
        Make.add(x, "0 -1 5");
        check.due("wrong(), as unknown it is of class 0", x.wrong(), 0);
        Make.add(x, "1 -1 5");
        check.due("wrong(), as unknown it is not of class 1", x.wrong(), 1);
    }

    private static void wrongLeavesTheShares() {
        check.part("promise 8: the shares stay as they are");
        CaseTree x = Make.of("2", "0 0", "1 1", "1 1");
        x.grow(1);
        x.wrong();
        check.shares(x, 0, 0, 0);
        x.classify(-1, 0, 0, 0);
        check.shares(x, 240, 480, 0);
        check.due("wrong()", x.wrong(), 0);
        check.shares(x, 240, 480, 0);
    }
}
