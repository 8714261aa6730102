/** Promises 1, 2, 3 and 12, sentence by sentence: a new object, attribute, add, cases. */
public final class BuildingEdgesTest {
    private static final Check check = new Check();
    private static final int BAD = CaseTree.BAD;
    private static final int FULL = CaseTree.FULL;
    private static final int NONE = CaseTree.NONE;
    private static final int LOW = Integer.MIN_VALUE;
    private static final int HIGH = Integer.MAX_VALUE;

    public static void main(String[] args) {
        noAttributes();
        noCases();
        noTree();
        noShares();
        nothingInCommon();

        kinds();
        continuousWhenZero();
        discreteWithSoMany();
        numbersOfAttributes();
        fullWithFourAttributes();
        badWithCases();
        attributeBadBeforeFull();
        refusedAttributeLeavesAll();

        classes();
        valuesOfEachKind();
        valuesOfNoAttribute();
        numbersOfCases();
        fullWithTwentyFourCases();
        addBadBeforeFull();
        refusedAddLeavesAll();
        unknownIsNoValue();

        casesAreCounted();
        check.end();
    }

    private static void noAttributes() {
        check.part("promise 1: no attributes");
        CaseTree x = new CaseTree();
        check.due("a case with values of no attribute", x.add(0, 0, 5000, LOW, -7), 0);
        check.due("another", x.add(1, 1, 1, 999, 3), 1);
        for (int attribute = 0; attribute < 4; attribute++) {
            check.due("gain(" + attribute + ", 1)", x.gain(attribute, 1), -1);
        }
        check.due("the first attribute is", new CaseTree().attribute(2), 0);
    }

    private static void noCases() {
        check.part("promise 1: no cases");
        CaseTree x = new CaseTree();
        check.due("cases()", x.cases(), 0);
        check.due("grow(1)", x.grow(1), NONE);
        check.due("attribute(0), for which there may be no cases", x.attribute(0), 0);
        check.due("the first case is", x.add(0, 0, 0, 0, 0), 0);
    }

    private static void noTree() {
        check.part("promise 1: no tree");
        CaseTree x = new CaseTree();
        check.due("nodes()", x.nodes(), 0);
        check.due("prune(0)", x.prune(0), NONE);
        check.due("classify", x.classify(-1, -1, -1, -1), NONE);
        check.due("wrong()", x.wrong(), NONE);
        check.due("classOf(0)", x.classOf(0), -1);
        check.due("weight(0, 0)", x.weight(0, 0), -1);
    }

    private static void noShares() {
        check.part("promise 1: all shares 0");
        CaseTree x = new CaseTree();
        check.shares(x, 0, 0, 0);
    }

    private static void nothingInCommon() {
        check.part("promise 1: also beside another object");
        CaseTree other = Make.of("2 0", "0 0 1", "1 1 2", "2 -1 3");
        other.grow(1);
        other.classify(1, 2, 0, 0);
        CaseTree x = new CaseTree();
        check.due("cases()", x.cases(), 0);
        check.due("nodes()", x.nodes(), 0);
        check.shares(x, 0, 0, 0);
        check.due("attribute(3)", x.attribute(3), 0);
        check.due("cases() of the other", other.cases(), 3);
    }

    private static void kinds() {
        int[][] due = {{LOW, BAD}, {-2, BAD}, {-1, BAD}, {0, 0}, {1, BAD}, {2, 0}, {3, 0}, {4, 0}, {5, BAD},
            {6, BAD}, {999, BAD}, {HIGH, BAD}};
        check.part("promise 2: BAD when values is not 0, 2, 3 or 4");
        for (int[] pair : due) {
            check.due("attribute(" + pair[0] + ")", new CaseTree().attribute(pair[0]), pair[1]);
        }
    }

    private static void continuousWhenZero() {
        check.part("promise 2: continuous when values is 0");
        CaseTree x = Make.of("0", "0 0", "1 999");
        check.due("add of 1000", x.add(0, 1000, 0, 0, 0), BAD);
        check.due("cut(0, 1)", x.cut(0, 1), 0);
        check.due("grow(1)", x.grow(1), 3);
        check.due("threshold(0)", x.threshold(0), 0);
    }

    private static void discreteWithSoMany() {
        check.part("promise 2: otherwise discrete with so many");
        for (int values = 2; values <= 4; values++) {
            CaseTree x = Make.of("" + values, "0 0", "1 1");
            check.due("add of the last value", x.add(1, values - 1, 0, 0, 0), 2);
            check.due("add of the next", x.add(1, values, 0, 0, 0), BAD);
            check.due("cut(0, 1)", x.cut(0, 1), -1);
            check.due("grow(1) with " + values, x.grow(1), 1 + values);
            check.due("the last branch", x.child(0, values - 1), values);
            check.due("no further branch", x.child(0, values), -1);
        }
    }

    private static void numbersOfAttributes() {
        check.part("promise 2: answers its number");
        CaseTree x = new CaseTree();
        check.due("attribute(4)", x.attribute(4), 0);
        check.due("attribute(0)", x.attribute(0), 1);
        check.due("attribute(1)", x.attribute(1), BAD);
        check.due("attribute(2) behind a refused one", x.attribute(2), 2);
        check.due("attribute(3)", x.attribute(3), 3);
    }

    private static void fullWithFourAttributes() {
        check.part("promise 2: FULL when there are 4 attributes");
        for (int values : new int[] {0, 2, 3, 4}) {
            CaseTree x = Make.of("2 3 4");
            check.due("the fourth", x.attribute(0), 3);
            check.due("a fifth", x.attribute(values), FULL);
            check.due("a fifth again", x.attribute(values), FULL);
            check.due("the fourth is what it was", x.add(0, 1, 2, 3, 999), 0);
        }
        CaseTree discrete = Make.of("2 3 4 2");
        check.due("a fifth", discrete.attribute(0), FULL);
        check.due("the fourth is what it was", discrete.add(0, 0, 0, 0, 2), BAD);
    }

    private static void badWithCases() {
        check.part("promise 2: BAD when there are cases");
        CaseTree x = Make.of("2");
        check.due("a refused case", x.add(3, 0, 0, 0, 0), BAD);
        check.due("attribute(2) behind a refused case", x.attribute(2), 1);
        check.due("a case", x.add(0, 0, 0, 0, 0), 0);
        for (int values : new int[] {0, 2, 3, 4}) {
            check.due("attribute(" + values + ") behind a case", x.attribute(values), BAD);
        }
        x.grow(1);
        check.due("attribute(2) behind a tree", x.attribute(2), BAD);
    }

    private static void attributeBadBeforeFull() {
        check.part("promise 2: BAD and FULL at once");
        CaseTree x = Make.of("2 3 4 0");
        for (int values : new int[] {LOW, -1, 1, 5, HIGH}) {
            check.due("attribute(" + values + ")", x.attribute(values), BAD);
        }
        check.due("a case", x.add(0, 0, 0, 0, 0), 0);
        check.due("attribute(2) with four attributes and a case", x.attribute(2), BAD);
    }

    private static void refusedAttributeLeavesAll() {
        check.part("promise 2: what a refused call leaves");
        String[] cases = {"0 0 5 1 2", "1 1 7 1 0", "2 1 9 0 -1", "1 0 -1 1 2"};
        CaseTree x = Make.of("2 0 2 3");
        CaseTree y = Make.of("2 0 2 3", cases);
        x.attribute(0);
        x.attribute(5);
        Make.add(x, cases);
        x.attribute(4);
        x.attribute(-1);
        x.grow(1);
        y.grow(1);
        x.attribute(2);
        check.same(x, y);
    }

    private static void classes() {
        check.part("promise 3: BAD when type is not 0 .. 2");
        CaseTree x = Make.of("2");
        int[][] due = {{LOW, BAD}, {-2, BAD}, {-1, BAD}, {0, 0}, {1, 1}, {2, 2}, {3, BAD}, {4, BAD}, {HIGH, BAD}};
        for (int[] pair : due) {
            check.due("add of class " + pair[0], x.add(pair[0], 0, 0, 0, 0), pair[1]);
        }
        x.grow(1);
        check.node(x, 0, -1, -1, 0, 720, 720, 720);
    }

    /** Four attributes of one kind, so that each place of add is tried with each kind. */
    private static void valuesOfEachKind() {
        int[][] kinds = {{2, 1}, {3, 2}, {4, 3}, {0, 999}};
        for (int[] kind : kinds) {
            check.part("promise 3: BAD when a value is neither UNKNOWN nor one of the attribute, kind " + kind[0]);
            int top = kind[1];
            int[][] due = {{LOW, BAD}, {-3, BAD}, {-2, BAD}, {-1, 0}, {0, 0}, {1, 0}, {top, 0}, {top + 1, BAD},
                {top + 2, BAD}, {1000, BAD}, {HIGH, BAD}};
            for (int place = 0; place < 4; place++) {
                for (int[] pair : due) {
                    CaseTree x = Make.of((kind[0] + " ").repeat(4));
                    check.due("value " + pair[0] + " in place " + place, addOne(x, place, pair[0]), pair[1]);
                }
            }
        }
    }

    private static int addOne(CaseTree x, int place, int value) {
        int[] row = new int[4];
        row[place] = value;
        return x.add(1, row[0], row[1], row[2], row[3]);
    }

    private static void valuesOfNoAttribute() {
        check.part("promise 3: of attributes that there are not, the value is not looked at");
        int[] wild = {LOW, -2, 1000, HIGH};
        for (int attributes = 0; attributes < 4; attributes++) {
            CaseTree x = Make.of("2 ".repeat(attributes));
            CaseTree y = Make.of("2 ".repeat(attributes));
            for (int i = 0; i < 4; i++) {
                int[] row = {i % 2, i % 2, i % 2, i % 2};
                y.add(i % 2, row[0], row[1], row[2], row[3]);
                for (int place = attributes; place < 4; place++) {
                    row[place] = wild[(place + i) % 4];
                }
                check.due("add with " + attributes, x.add(i % 2, row[0], row[1], row[2], row[3]), i);
            }
            check.due("gain(" + attributes + ", 1)", x.gain(attributes, 1), -1);
            check.due("grow(1)", x.grow(1), y.grow(1));
            check.same(x, y);
        }
    }

    private static void numbersOfCases() {
        check.part("promise 3: answers its number");
        CaseTree x = Make.of("2");
        check.due("the first", x.add(0, 0, 0, 0, 0), 0);
        check.due("a refused one", x.add(0, 2, 0, 0, 0), BAD);
        check.due("the second", x.add(0, 0, 0, 0, 0), 1);
        x.grow(1);
        check.due("one behind a tree", x.add(2, 1, 0, 0, 0), 2);
    }

    private static void fullWithTwentyFourCases() {
        check.part("promise 3: FULL when there are 24");
        CaseTree x = Make.of("2", "22x 0 0");
        check.due("the 23rd", x.add(1, 1, 0, 0, 0), 22);
        check.due("the 24th", x.add(1, 1, 0, 0, 0), 23);
        check.due("a 25th", x.add(1, 1, 0, 0, 0), FULL);
        check.due("a 25th again", x.add(0, -1, 0, 0, 0), FULL);
        check.due("cases()", x.cases(), 24);
        x.grow(1);
        check.node(x, 0, 0, -1, 0, 22 * 720, 2 * 720, 0);
        check.due("a 25th behind a tree", x.add(1, 1, 0, 0, 0), FULL);
        check.due("wrong()", x.wrong(), 0);
    }

    private static void addBadBeforeFull() {
        check.part("promise 3: BAD and FULL at once");
        CaseTree x = Make.of("2", "24x 0 0");
        check.due("a 25th of class 3", x.add(3, 0, 0, 0, 0), BAD);
        check.due("a 25th of class -1", x.add(-1, 0, 0, 0, 0), BAD);
        check.due("a 25th with the value 2", x.add(0, 2, 0, 0, 0), BAD);
        check.due("a 25th with the value -2", x.add(0, -2, 0, 0, 0), BAD);
    }

    private static void refusedAddLeavesAll() {
        check.part("promise 3: what a refused call leaves");
        CaseTree x = Make.of("2 0", "0 0 5", "1 1 7");
        CaseTree y = Make.of("2 0", "0 0 5", "1 1 7", "2 1 9", "1 -1 8");
        x.add(2, 2, 0, 0, 0);
        x.add(3, 1, 7, 0, 0);
        x.add(2, 1, 1000, 0, 0);
        Make.add(x, "2 1 9");
        x.add(-1, 0, 0, 0, 0);
        x.add(1, -2, 3, 0, 0);
        Make.add(x, "1 -1 8");
        x.add(0, 0, -2, 0, 0);
        x.grow(1);
        y.grow(1);
        x.add(2, 0, 1000, 0, 0);
        check.same(x, y);
        CaseTree full = Make.of("2 0", "12x 0 0 5", "6x 1 1 7", "6x 2 1 9");
        CaseTree twin = Make.of("2 0", "12x 0 0 5", "6x 1 1 7", "6x 2 1 9");
        full.add(2, 0, 7, 0, 0);
        full.grow(1);
        twin.grow(1);
        full.add(1, 0, 9, 0, 0);
        check.same(full, twin);
    }

    private static void unknownIsNoValue() {
        check.part("promise 3: a value or UNKNOWN (-1)");
        CaseTree discrete = Make.of("2", "0 0", "1 1", "1 -1");
        discrete.grow(1);
        check.parts(discrete, 0, 720, 720);
        CaseTree continuous = Make.of("0", "0 0", "1 1", "1 -1");
        check.due("cut(0, 1)", continuous.cut(0, 1), 0);
        continuous.grow(1);
        check.parts(continuous, 0, 720, 720);
    }

    private static void casesAreCounted() {
        check.part("promise 12: the number of cases");
        CaseTree x = Make.of("2");
        for (int i = 0; i < 24; i++) {
            check.due("cases()", x.cases(), i);
            x.add(i % 2, i % 2, 0, 0, 0);
            x.add(3, 0, 0, 0, 0);
            if (i == 11) {
                x.grow(1);
            }
        }
        check.due("cases()", x.cases(), 24);
        x.add(0, 0, 0, 0, 0);
        check.due("cases() behind a refused one", x.cases(), 24);
        check.due("the tree has its 12", x.weight(0, 0) + x.weight(0, 1), 12 * 720);
        x.prune(2000);
        check.due("cases() behind prune", x.cases(), 24);
    }
}
