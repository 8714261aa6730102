/**
 * Promises 1 to 20: generated runs of calls, each answer compared with that of the Reference. The
 * runs are the same each time; what they are to meet is counted at the end, so that a generator
 * that has gone dull is found.
 */
public final class ReferenceTest {
    private static final int RUNS = 4000;
    private static final Check check = new Check();
    private static final int[] KINDS = {0, 2, 3, 4, 0, 2};
    private static final int[] SPREADS = {3, 8, 30, 1000};
    /** With parts of a case's weight as charges, errors are often equal. */
    private static final int[] CHARGES = {0, 180, 360, 360, 720, 1440};
    private static final int[] WILD = {Integer.MIN_VALUE, -32768, -3, -2, -1, 0, 1, 2, 3, 4, 5, 6, 24, 84, 85, 999,
        1000, 2000, 2001, 32767, 32768, Integer.MAX_VALUE};

    private static long state = 1;
    private static int raised = 0;
    private static int leaved = 0;
    private static int emptyNodes = 0;
    private static int emptiedNodes = 0;
    private static int farThresholds = 0;
    private static int averageMattered = 0;
    private static int gainsBelowZero = 0;
    private static int knownZero = 0;

    private Limited x;
    private Reference y;
    private int attributes;
    private int[] kinds;
    private int spread;
    private int unknown;
    private int order;

    public static void main(String[] args) {
        for (int run = 0; run < RUNS && check.wrong() < 20; run++) {
            check.part("run " + run);
            state = run * 7919L + 17;
            new ReferenceTest().run(run);
        }
        check.part("what the runs met");
        System.out.println("raised " + raised + ", made leaves " + leaved + ", empty nodes " + emptyNodes
                + ", emptied nodes " + emptiedNodes + ", far thresholds " + farThresholds
                + ", average mattered " + averageMattered + ", gains below zero " + gainsBelowZero
                + ", known zero " + knownZero);
        check.holds("many branches take the place of a node", raised > 50);
        check.holds("many nodes become leaves", leaved > 100);
        check.holds("many nodes have no weight", emptyNodes > 100);
        check.holds("many thresholds lie above the lower value", farThresholds > 100);
        check.holds("the average often matters", averageMattered > 100);
        check.holds("many gains are below zero", gainsBelowZero > 100);
        // by reckoning no run reaches these two; one that does wants a test of its own
        check.due("tests that were met with K = 0", knownZero, 0);
        check.due("nodes that lost all their weight by pruning", emptiedNodes, 0);
        check.end();
    }

    /** From 0 to below a bound. */
    private static int next(int bound) {
        state = state * 6364136223846793005L + 1442695040888963407L;
        return (int) ((state >>> 33) % bound);
    }

    private void run(int run) {
        x = new Limited();
        y = new Reference();
        spread = SPREADS[next(SPREADS.length)];
        unknown = next(4) * 12;
        order = next(3);
        attributes = run % 50 == 0 ? 0 : 1 + next(4);
        kinds = new int[4];
        for (int i = 0; i < attributes; i++) {
            kinds[i] = KINDS[next(KINDS.length)];
            check.due("attribute", x.attribute(kinds[i]), y.attribute(kinds[i]));
        }
        tryAttributes();
        int rounds = 1 + next(3);
        for (int round = 0; round < rounds; round++) {
            addSome(1 + next(24 / rounds + 2));
            tryAttributes();
            compareTests();
            maybeGrow();
            compareTree();
            for (int i = next(3); i > 0; i--) {
                int charge = next(2) == 0 ? CHARGES[next(CHARGES.length)] : next(5) == 0 ? next(2003) - 1 : next(800);
                check.due("prune(" + charge + ")", x.prune(charge), y.prune(charge));
                compareTree();
            }
        }
        for (int i = next(4); i > 0; i--) {
            tryWild();
        }
        note();
    }

    /** Calls with arguments from anywhere; what they change, they change in both. */
    private void tryWild() {
        int a = WILD[next(WILD.length)];
        int b = WILD[next(WILD.length)];
        int c = WILD[next(WILD.length)];
        String call = "(" + a + ", " + b + ", " + c + ")";
        check.due("log" + call, x.log(a), Reference.log(a));
        check.due("share" + call, x.share(a), y.share(a));
        check.due("tested" + call, x.tested(a), y.tested(a));
        check.due("threshold" + call, x.threshold(a), y.threshold(a));
        check.due("classOf" + call, x.classOf(a), y.classOf(a));
        check.due("child" + call, x.child(a, b), y.child(a, b));
        check.due("weight" + call, x.weight(a, b), y.weight(a, b));
        check.due("part" + call, x.part(a, b), y.part(a, b));
        check.due("gain" + call, x.gain(a, b), y.gain(a, b));
        check.due("split" + call, x.split(a, b), y.split(a, b));
        check.due("cut" + call, x.cut(a, b), y.cut(a, b));
        check.due("add" + call, x.add(a, b, c, b, c), y.add(a, b, c, b, c));
        check.due("classify" + call, x.classify(a, b, c, a), y.classify(a, b, c, a));
        check.due("prune" + call, x.prune(a), y.prune(a));
        check.due("grow" + call, x.grow(b), y.grow(b));
        compareTree();
    }

    /** Only such as are refused: with four attributes, with cases, or of no kind. */
    private void tryAttributes() {
        int values = attributes == 4 || y.cases() > 0 ? next(8) - 1 : 5;
        check.due("attribute(" + values + ")", x.attribute(values), y.attribute(values));
    }

    private void note() {
        raised += y.raised;
        leaved += y.leaved;
        emptyNodes += y.emptyNodes;
        emptiedNodes += y.emptiedNodes;
        farThresholds += y.farThresholds;
        averageMattered += y.averageMattered;
        gainsBelowZero += y.gainsBelowZero;
        knownZero += y.knownZero;
    }

    private int value(int attribute) {
        if (next(100) < unknown) {
            return -1;
        }
        return kinds[attribute] == 0 ? next(spread) : next(kinds[attribute]);
    }

    private void addSome(int count) {
        for (int i = 0; i < count; i++) {
            int[] row = new int[4];
            for (int a = 0; a < 4; a++) {
                row[a] = a < attributes ? value(a) : next(2000) - 1000;
            }
            int type = typeFor(row);
            if (next(60) == 0) {
                row[next(4)] = 1000;
            }
            int got = x.add(type, row[0], row[1], row[2], row[3]);
            check.due("add", got, y.add(type, row[0], row[1], row[2], row[3]));
        }
        check.due("cases", x.cases(), y.cases());
    }

    /** Classes that follow the values more or less, so that trees grow deep. */
    private int typeFor(int[] row) {
        if (order == 0 || attributes == 0 || next(8) == 0) {
            return next(3);
        }
        int first = kinds[0] == 0 ? row[0] * 4 / spread : row[0];
        int last = attributes - 1;
        int second = kinds[last] == 0 ? row[last] * 3 / spread : row[last];
        return Math.floorMod(order == 1 ? first + second : first * second + first, 3);
    }

    private void compareTests() {
        for (int attribute = -1; attribute <= 4; attribute++) {
            for (int minimum = 0; minimum <= 6; minimum++) {
                String call = "(" + attribute + ", " + minimum + ")";
                check.due("gain" + call, x.gain(attribute, minimum), y.gain(attribute, minimum));
                check.due("split" + call, x.split(attribute, minimum), y.split(attribute, minimum));
                check.due("cut" + call, x.cut(attribute, minimum), y.cut(attribute, minimum));
            }
        }
    }

    private void maybeGrow() {
        int minimum = next(10) == 0 ? next(8) - 1 : 1 + next(2);
        if (next(6) > 0) {
            check.due("grow(" + minimum + ")", x.grow(minimum), y.grow(minimum));
        }
    }

    private void compareTree() {
        check.due("nodes", x.nodes(), y.nodes());
        for (int node = -1; node <= y.nodes(); node++) {
            check.due("tested(" + node + ")", x.tested(node), y.tested(node));
            check.due("threshold(" + node + ")", x.threshold(node), y.threshold(node));
            check.due("classOf(" + node + ")", x.classOf(node), y.classOf(node));
            for (int i = -1; i <= 4; i++) {
                String call = "(" + node + ", " + i + ")";
                check.due("child" + call, x.child(node, i), y.child(node, i));
                check.due("weight" + call, x.weight(node, i), y.weight(node, i));
                check.due("part" + call, x.part(node, i), y.part(node, i));
            }
        }
        for (int i = 0; i < 4; i++) {
            classifyOne();
        }
        check.due("wrong", x.wrong(), y.wrong());
        compareShares();
    }

    private void classifyOne() {
        int[] row = new int[4];
        for (int a = 0; a < 4; a++) {
            row[a] = next(3) == 0 ? -1 : a < attributes ? value(a) : next(2000);
        }
        if (next(10) == 0) {
            row[next(4)] = 1000;
        }
        int got = x.classify(row[0], row[1], row[2], row[3]);
        check.due("classify", got, y.classify(row[0], row[1], row[2], row[3]));
        compareShares();
    }

    private void compareShares() {
        for (int type = -1; type <= 3; type++) {
            check.due("share(" + type + ")", x.share(type), y.share(type));
        }
    }
}
