/** Promises 1, 2, 3 and 12: a new object, attribute, add, cases. */
public final class BuildingTest {
    private static final Check check = new Check();

    public static void main(String[] args) {
        newObject();
        attributeKinds();
        attributeRefusals();
        addAnswers();
        addRefusals();
        unusedValuesAreNotLookedAt();
        check.end();
    }

    private static void newObject() {
        check.part("promise 1");
        CaseTree x = new CaseTree();
        check.due("cases()", x.cases(), 0);
        check.due("nodes()", x.nodes(), 0);
        check.due("wrong()", x.wrong(), CaseTree.NONE);
        check.due("grow(1)", x.grow(1), CaseTree.NONE);
        check.due("prune(0)", x.prune(0), CaseTree.NONE);
        check.due("classify(0, 0, 0, 0)", x.classify(0, 0, 0, 0), CaseTree.NONE);
        for (int i = -1; i <= 4; i++) {
            check.due("share", x.share(i), 0);
            check.due("gain", x.gain(i, 1), -1);
            check.due("split", x.split(i, 1), -1);
            check.due("cut", x.cut(i, 1), -1);
            check.due("tested", x.tested(i), -1);
            check.due("threshold", x.threshold(i), -1);
            check.due("child", x.child(i, 0), -1);
            check.due("classOf", x.classOf(i), -1);
            check.due("weight", x.weight(i, 0), -1);
            check.due("part", x.part(i, 0), -1);
        }
        check.due("two objects share nothing", new CaseTree().attribute(2), 0);
        check.due("attribute(3)", x.attribute(3), 0);
    }

    private static void attributeKinds() {
        check.part("promise 2");
        CaseTree x = new CaseTree();
        check.due("attribute(0)", x.attribute(0), 0);
        check.due("attribute(2)", x.attribute(2), 1);
        check.due("attribute(3)", x.attribute(3), 2);
        check.due("attribute(4)", x.attribute(4), 3);
        check.due("the fifth", x.attribute(0), CaseTree.FULL);
        check.due("the fifth", x.attribute(4), CaseTree.FULL);
        check.due("the fifth, not so many values", x.attribute(1), CaseTree.BAD);
        check.due("top values", x.add(0, 999, 1, 2, 3), 0);
        check.due("a fifth behind a case", x.attribute(2), CaseTree.BAD);
    }

    private static void attributeRefusals() {
        check.part("promise 2");
        CaseTree x = new CaseTree();
        int[] bad = {-1, 1, 5, 6, 999, Integer.MIN_VALUE, Integer.MAX_VALUE};
        for (int values : bad) {
            check.due("attribute(" + values + ")", x.attribute(values), CaseTree.BAD);
        }
        check.due("attribute(2) after refusals", x.attribute(2), 0);
        check.due("add", x.add(0, 0, 0, 0, 0), 0);
        check.due("attribute(2) with a case", x.attribute(2), CaseTree.BAD);
        check.due("it was not added", x.gain(1, 1), -1);
        check.due("its value is not looked at", x.add(0, 0, 77, 0, 0), 1);
    }

    private static void addAnswers() {
        check.part("promise 3 and 12");
        CaseTree x = new CaseTree();
        x.attribute(2);
        for (int i = 0; i < 24; i++) {
            check.due("cases()", x.cases(), i);
            check.due("add", x.add(i % 3, i % 2, 0, 0, 0), i);
        }
        check.due("cases()", x.cases(), 24);
        check.due("add of a 25th", x.add(0, 0, 0, 0, 0), CaseTree.FULL);
        check.due("add of a 25th of no class", x.add(3, 0, 0, 0, 0), CaseTree.BAD);
        check.due("add of a 25th of no value", x.add(0, 2, 0, 0, 0), CaseTree.BAD);
        check.due("cases()", x.cases(), 24);
        check.due("grow(1)", x.grow(1), 1);
        check.due("weight(0, 0)", x.weight(0, 0), 8 * 720);
        check.due("weight(0, 2)", x.weight(0, 2), 8 * 720);
    }

    private static void addRefusals() {
        check.part("promise 3");
        CaseTree x = new CaseTree();
        x.attribute(2);
        x.attribute(3);
        x.attribute(4);
        x.attribute(0);
        int[] tops = {1, 2, 3, 999};
        int[] far = {Integer.MIN_VALUE, -3, -2, 1000, 1001, Integer.MAX_VALUE};
        for (int type : new int[] {-1, 3, 4, Integer.MIN_VALUE, Integer.MAX_VALUE}) {
            check.due("add of class " + type, x.add(type, 0, 0, 0, 0), CaseTree.BAD);
        }
        for (int place = 0; place < 4; place++) {
            for (int value : far) {
                check.due("value " + value + " of " + place, addOne(x, place, value), CaseTree.BAD);
            }
            check.due("value above the top of " + place, addOne(x, place, tops[place] + 1), CaseTree.BAD);
        }
        check.due("cases()", x.cases(), 0);
        int number = 0;
        for (int place = 0; place < 4; place++) {
            for (int value : new int[] {-1, 0, tops[place]}) {
                check.due("value " + value + " of " + place, addOne(x, place, value), number++);
            }
        }
        check.due("cases()", x.cases(), 12);
    }

    private static int addOne(CaseTree x, int place, int value) {
        int[] row = new int[4];
        row[place] = value;
        return x.add(1, row[0], row[1], row[2], row[3]);
    }

    private static void unusedValuesAreNotLookedAt() {
        check.part("promise 3");
        CaseTree x = new CaseTree();
        x.attribute(2);
        check.due("add", x.add(0, 1, -9, 5000, Integer.MIN_VALUE), 0);
        check.due("add", x.add(0, 2, 0, 0, 0), CaseTree.BAD);
        CaseTree none = new CaseTree();
        check.due("add without attributes", none.add(2, -9, 1000, 4, 5), 0);
    }
}
