import java.util.Arrays;

/**
 * Learns a decision tree from cases: tests are chosen by the ratio of gain to split information,
 * cases whose value is not known go down several branches in shares, and the tree is pruned by
 * comparing each subtree with a leaf and with its heaviest branch.
 *
 * All rows are made with the object and used again, so that no call makes anything new.
 */
public final class CaseTree {
    public static final int BAD = -1;
    public static final int FULL = -2;
    public static final int NONE = -3;

    private static final int ATTRIBUTES = 4;
    private static final int CLASSES = 3;
    private static final int CASES = 24;
    private static final int BRANCHES = 4;
    private static final int CONTINUOUS = 0;
    private static final int CONTINUOUS_BRANCHES = 2;
    private static final int TOP_VALUE = 999;
    private static final int UNKNOWN = -1;
    private static final int WHOLE = 720;
    private static final int DEPTH = 3;
    /** A full tree: 1 + 4 + 16 + 64. */
    private static final int NODES = 85;
    private static final int TOP_MINIMUM = 5;
    private static final int TOP_CHARGE = 2000;
    private static final int TOP_LOG = 32767;
    private static final int LOG_BITS = 14;
    private static final int LOG_ROUNDS = 8;
    /** What look-ups answer that find nothing; also the threshold of a discrete test. */
    private static final int NOTHING = -1;
    private static final long GAIN_BELOW_ZERO = -2;

    private final Cases book;
    private final Tree tree;
    private final Path path;
    private final Tester tester;
    private final Grower grower;
    private final Pruner pruner;
    private final Judge judge;
    private final int[] asked;
    private final int[] latest;

    public CaseTree() {
        book = new Cases();
        tree = new Tree();
        path = new Path(book);
        tester = new Tester(book);
        grower = new Grower(book, tree, path, tester);
        pruner = new Pruner(tree, path);
        judge = new Judge(tree, path);
        asked = new int[ATTRIBUTES];
        latest = new int[CLASSES];
    }

    public int attribute(int values) {
        boolean kind = values == CONTINUOUS || (values >= 2 && values <= BRANCHES);
        if (!kind || book.count > 0) {
            return BAD;
        }
        if (book.attributes >= ATTRIBUTES) {
            return FULL;
        }
        return book.putAttribute(values);
    }

    public int add(int type, int a, int b, int c, int d) {
        ask(a, b, c, d);
        if (!isClass(type) || !book.fits(asked)) {
            return BAD;
        }
        if (book.count >= CASES) {
            return FULL;
        }
        return book.putCase(type, asked);
    }

    public int grow(int minimum) {
        if (!isMinimum(minimum)) {
            return BAD;
        }
        if (book.count == 0) {
            return NONE;
        }
        grower.plant(minimum);
        return tree.size;
    }

    public int prune(int charge) {
        if (charge < 0 || charge > TOP_CHARGE) {
            return BAD;
        }
        if (tree.size == 0) {
            return NONE;
        }
        pruner.pruneAll(charge);
        return tree.size;
    }

    public int classify(int a, int b, int c, int d) {
        ask(a, b, c, d);
        if (!book.fits(asked)) {
            return BAD;
        }
        if (tree.size == 0) {
            return NONE;
        }
        int type = judge.classFor(asked);
        System.arraycopy(judge.given, 0, latest, 0, CLASSES);
        return type;
    }

    public int share(int type) {
        return isClass(type) ? latest[type] : 0;
    }

    public int wrong() {
        if (tree.size == 0) {
            return NONE;
        }
        int found = 0;
        for (int number = 0; number < book.count; number++) {
            book.copyValues(number, asked);
            if (judge.classFor(asked) != book.types[number]) {
                found++;
            }
        }
        return found;
    }

    public long gain(int attribute, int minimum) {
        if (!hasRootTest(attribute, minimum)) {
            return NOTHING;
        }
        long gain = tester.findings[attribute].gain;
        return gain < 0 ? GAIN_BELOW_ZERO : gain;
    }

    public long split(int attribute, int minimum) {
        return hasRootTest(attribute, minimum) ? tester.findings[attribute].split : NOTHING;
    }

    public int cut(int attribute, int minimum) {
        return hasRootTest(attribute, minimum) ? tester.findings[attribute].threshold : NOTHING;
    }

    public int cases() {
        return book.count;
    }

    public int nodes() {
        return tree.size;
    }

    public int tested(int node) {
        return tree.has(node) ? tree.attributes[tree.order[node]] : NOTHING;
    }

    public int threshold(int node) {
        return tree.has(node) ? tree.thresholds[tree.order[node]] : NOTHING;
    }

    public int child(int node, int branch) {
        if (!tree.hasBranch(node, branch)) {
            return NOTHING;
        }
        return tree.numbers[tree.below(tree.order[node], branch)];
    }

    public int classOf(int node) {
        return tree.has(node) ? tree.types[tree.order[node]] : NOTHING;
    }

    public int weight(int node, int type) {
        if (!tree.has(node) || !isClass(type)) {
            return NOTHING;
        }
        return tree.weights[tree.order[node] * CLASSES + type];
    }

    public int part(int node, int branch) {
        if (!tree.hasBranch(node, branch)) {
            return NOTHING;
        }
        return tree.parts[tree.order[node] * BRANCHES + branch];
    }

    public int log(int n) {
        return n < 1 || n > TOP_LOG ? NOTHING : logarithm(n);
    }

    private void ask(int a, int b, int c, int d) {
        asked[0] = a;
        asked[1] = b;
        asked[2] = c;
        asked[3] = d;
    }

    /** Works out the test of an attribute at the root; it is in the tester's findings then. */
    private boolean hasRootTest(int attribute, int minimum) {
        if (attribute < 0 || attribute >= book.attributes || !isMinimum(minimum)) {
            return false;
        }
        path.start(book.count);
        tester.examine(attribute, path.rows[0], minimum);
        return tester.findings[attribute].there;
    }

    private static boolean isClass(int type) {
        return type >= 0 && type < CLASSES;
    }

    private static boolean isMinimum(int minimum) {
        return minimum >= 1 && minimum <= TOP_MINIMUM;
    }

    /** The document's LOG, for 1 .. 32767: 256 times the logarithm to the base 2, nearly. */
    private static int logarithm(int n) {
        int k = 0;
        for (int bit = 1; bit <= LOG_BITS; bit++) {
            if (n >> bit > 0) {
                k = bit;
            }
        }
        // k is at most 14, so nothing is lost by shifting the difference at once
        int m = n << (LOG_BITS - k);
        int l = k;
        for (int round = 0; round < LOG_ROUNDS; round++) {
            m = m * m >> LOG_BITS;
            l = 2 * l;
            if (m >> LOG_BITS >= 2) {
                m = m >> 1;
                l = l + 1;
            }
        }
        return l;
    }

    /** The information of the weights that stand in a row, so many from a place on. */
    private static long information(int[] row, int from, int count) {
        int total = sum(row, from, count);
        if (total == 0) {
            return 0;
        }
        int whole = logarithm(total);
        long information = 0;
        for (int i = from; i < from + count; i++) {
            if (row[i] > 0) {
                information += (long) row[i] * (whole - logarithm(row[i]));
            }
        }
        return information;
    }

    private static int sum(int[] row, int from, int count) {
        int total = 0;
        for (int i = from; i < from + count; i++) {
            total += row[i];
        }
        return total;
    }

    /** Which of some numbers in a row is the greatest, the first of several, counted from the place. */
    private static int firstGreatest(int[] row, int from, int count) {
        int best = 0;
        for (int i = 1; i < count; i++) {
            if (row[from + i] > row[from + best]) {
                best = i;
            }
        }
        return best;
    }

    private static int branchFor(int value, int threshold) {
        if (threshold == NOTHING) {
            return value;
        }
        return value <= threshold ? 0 : 1;
    }

    /** The attributes and the cases, in the order in which they came. */
    private static final class Cases {
        final int[] kinds = new int[ATTRIBUTES];
        final int[] types = new int[CASES];
        final int[] values = new int[CASES * ATTRIBUTES];
        int attributes = 0;
        int count = 0;

        int putAttribute(int kind) {
            kinds[attributes] = kind;
            attributes++;
            return attributes - 1;
        }

        int putCase(int type, int[] row) {
            types[count] = type;
            System.arraycopy(row, 0, values, count * ATTRIBUTES, ATTRIBUTES);
            count++;
            return count - 1;
        }

        void copyValues(int number, int[] row) {
            System.arraycopy(values, number * ATTRIBUTES, row, 0, ATTRIBUTES);
        }

        int valueOf(int number, int attribute) {
            return values[number * ATTRIBUTES + attribute];
        }

        boolean isContinuous(int attribute) {
            return kinds[attribute] == CONTINUOUS;
        }

        int branchesOf(int attribute) {
            return isContinuous(attribute) ? CONTINUOUS_BRANCHES : kinds[attribute];
        }

        boolean fits(int[] row) {
            for (int attribute = 0; attribute < attributes; attribute++) {
                int top = isContinuous(attribute) ? TOP_VALUE : kinds[attribute] - 1;
                if (row[attribute] < UNKNOWN || row[attribute] > top) {
                    return false;
                }
            }
            return true;
        }

        /** The lowest value above another that a case with a weight in the row has. */
        int nextValue(int attribute, int[] row, int low) {
            int next = NOTHING;
            for (int number = 0; number < count; number++) {
                int value = valueOf(number, attribute);
                if (row[number] > 0 && value > low && (next == NOTHING || value < next)) {
                    next = value;
                }
            }
            return next;
        }

        /** The greatest value not above a bound that any case has. */
        int valueUpTo(int attribute, int bound) {
            int greatest = NOTHING;
            for (int number = 0; number < count; number++) {
                int value = valueOf(number, attribute);
                if (value <= bound && value > greatest) {
                    greatest = value;
                }
            }
            return greatest;
        }
    }

    /** What there is to say of the test of one attribute at one node. */
    private static final class Finding {
        boolean there = false;
        int threshold = NOTHING;
        long gain = 0;
        long split = 0;

        boolean hasGain() {
            return there && gain > 0;
        }

        /** Exact: the products stay far below what a long holds. */
        boolean hasGreaterRatio(Finding other) {
            return gain * other.split > other.gain * split;
        }
    }

    /** Works out the tests at a node, whose cases are told by a row of weights. */
    private static final class Tester {
        final Cases book;
        final Finding[] findings = new Finding[ATTRIBUTES];
        final int[] knownWeights = new int[CLASSES];
        final int[] branchWeights = new int[BRANCHES * CLASSES];
        /** The parts, and behind them the weight of the cases whose value is not known. */
        final int[] parts = new int[BRANCHES + 1];

        Tester(Cases book) {
            this.book = book;
            for (int attribute = 0; attribute < ATTRIBUTES; attribute++) {
                findings[attribute] = new Finding();
            }
        }

        /** Thresholds come lowest first, so that of several with one gain the lowest stays. */
        void examine(int attribute, int[] row, int minimum) {
            Finding finding = findings[attribute];
            finding.there = false;
            if (!book.isContinuous(attribute)) {
                tally(attribute, NOTHING, row);
                if (isValid(minimum)) {
                    offer(finding, NOTHING);
                }
                return;
            }
            int valid = 0;
            // without any value low is below all values, and high is nothing too
            int low = book.nextValue(attribute, row, UNKNOWN);
            int high = book.nextValue(attribute, row, low);
            for (int pair = 0; pair < CASES && high != NOTHING; pair++) {
                int threshold = book.valueUpTo(attribute, (low + high) / 2);
                tally(attribute, threshold, row);
                if (isValid(minimum)) {
                    valid++;
                    offer(finding, threshold);
                }
                low = high;
                high = book.nextValue(attribute, row, low);
            }
            if (valid > 0) {
                finding.gain -= (long) WHOLE * logarithm(valid);
            }
        }

        private void tally(int attribute, int threshold, int[] row) {
            Arrays.fill(knownWeights, 0);
            Arrays.fill(branchWeights, 0);
            Arrays.fill(parts, 0);
            for (int number = 0; number < book.count; number++) {
                int value = book.valueOf(number, attribute);
                int type = book.types[number];
                if (value == UNKNOWN) {
                    parts[BRANCHES] += row[number];
                } else {
                    int branch = branchFor(value, threshold);
                    parts[branch] += row[number];
                    knownWeights[type] += row[number];
                    branchWeights[branch * CLASSES + type] += row[number];
                }
            }
        }

        private boolean isValid(int minimum) {
            int enough = 0;
            for (int branch = 0; branch < BRANCHES; branch++) {
                if (parts[branch] >= WHOLE * minimum) {
                    enough++;
                }
            }
            return enough >= 2;
        }

        /** The test just tallied becomes the finding, unless one with as great a gain is there. */
        private void offer(Finding finding, int threshold) {
            long gain = information(knownWeights, 0, CLASSES);
            for (int branch = 0; branch < BRANCHES; branch++) {
                gain -= information(branchWeights, branch * CLASSES, CLASSES);
            }
            if (finding.there && gain <= finding.gain) {
                return;
            }
            finding.there = true;
            finding.threshold = threshold;
            finding.gain = gain;
            finding.split = information(parts, 0, BRANCHES + 1);
        }

        /** The attribute whose test is taken, by the findings there are; NOTHING without a gain. */
        int chosen() {
            long total = 0;
            int gains = 0;
            for (int attribute = 0; attribute < book.attributes; attribute++) {
                if (findings[attribute].hasGain()) {
                    total += findings[attribute].gain;
                    gains++;
                }
            }
            int best = NOTHING;
            for (int attribute = 0; attribute < book.attributes; attribute++) {
                Finding finding = findings[attribute];
                boolean counts = finding.hasGain() && finding.gain * gains >= total;
                if (counts && (best == NOTHING || finding.hasGreaterRatio(findings[best]))) {
                    best = attribute;
                }
            }
            return best;
        }
    }

    /** A test with its parts, by which cases are sent down. */
    private static final class Fork {
        final int[] parts = new int[BRANCHES];
        int attribute = 0;
        int threshold = NOTHING;
        int branches = 0;
        private int known = 0;
        private int heaviest = 0;

        void setTest(int attribute, int threshold, int branches) {
            this.attribute = attribute;
            this.threshold = threshold;
            this.branches = branches;
            Arrays.fill(parts, 0);
        }

        void settleParts() {
            known = sum(parts, 0, BRANCHES);
            heaviest = firstGreatest(parts, 0, BRANCHES);
        }

        /** What goes into a branch of the weight of a case with a value. */
        int passed(int weight, int value, int branch) {
            if (value != UNKNOWN) {
                return branchFor(value, threshold) == branch ? weight : 0;
            }
            if (known == 0) {
                return branch == 0 ? weight : 0;
            }
            if (branch != heaviest) {
                return weight * parts[branch] / known;
            }
            int left = weight;
            for (int other = 0; other < branches; other++) {
                if (other != heaviest) {
                    left -= weight * parts[other] / known;
                }
            }
            return left;
        }
    }

    /** The weights of the cases, and the tests, on the way from the root to one node, by depth. */
    private static final class Path {
        final Cases book;
        final int[][] rows = new int[DEPTH + 1][CASES];
        final Fork[] forks = new Fork[DEPTH + 1];
        final int[] classWeights = new int[CLASSES];

        Path(Cases book) {
            this.book = book;
            for (int depth = 0; depth <= DEPTH; depth++) {
                forks[depth] = new Fork();
            }
        }

        /** The cases added after the first so many have no weight. */
        void start(int count) {
            for (int number = 0; number < CASES; number++) {
                rows[0][number] = number < count ? WHOLE : 0;
            }
        }

        void tallyClasses(int depth) {
            Arrays.fill(classWeights, 0);
            for (int number = 0; number < book.count; number++) {
                classWeights[book.types[number]] += rows[depth][number];
            }
        }

        void tallyParts(int depth) {
            Fork fork = forks[depth];
            for (int number = 0; number < book.count; number++) {
                int value = book.valueOf(number, fork.attribute);
                if (value != UNKNOWN) {
                    fork.parts[branchFor(value, fork.threshold)] += rows[depth][number];
                }
            }
            fork.settleParts();
        }

        void goDown(int depth, int branch) {
            Fork fork = forks[depth];
            for (int number = 0; number < book.count; number++) {
                int value = book.valueOf(number, fork.attribute);
                rows[depth + 1][number] = fork.passed(rows[depth][number], value, branch);
            }
        }
    }

    /**
     * The nodes, each at a place of its own; the root is at place 0. Pruning leaves places unused,
     * therefore the numbers of the nodes are kept beside them.
     */
    private static final class Tree {
        final int[] attributes = new int[NODES];
        final int[] thresholds = new int[NODES];
        final int[] branches = new int[NODES];
        final int[] types = new int[NODES];
        final int[] weights = new int[NODES * CLASSES];
        final int[] parts = new int[NODES * BRANCHES];
        final int[] children = new int[NODES * BRANCHES];
        final int[] order = new int[NODES];
        final int[] numbers = new int[NODES];
        int made = 0;
        int size = 0;
        /** How many cases there were when it was grown. */
        int count = 0;

        boolean has(int number) {
            return number >= 0 && number < size;
        }

        boolean hasBranch(int number, int branch) {
            return has(number) && branch >= 0 && branch < branches[order[number]];
        }

        boolean isLeaf(int place) {
            return branches[place] == 0;
        }

        int below(int place, int branch) {
            return children[place * BRANCHES + branch];
        }

        int totalWeight(int place) {
            return sum(weights, place * CLASSES, CLASSES);
        }

        int makeNode(int type) {
            int place = made;
            made++;
            types[place] = type;
            becomeLeaf(place);
            return place;
        }

        void becomeLeaf(int place) {
            attributes[place] = NOTHING;
            thresholds[place] = NOTHING;
            branches[place] = 0;
        }

        void keepTest(int place, Fork fork) {
            attributes[place] = fork.attribute;
            thresholds[place] = fork.threshold;
            branches[place] = fork.branches;
            System.arraycopy(fork.parts, 0, parts, place * BRANCHES, BRANCHES);
        }

        void readTest(int place, Fork fork) {
            fork.setTest(attributes[place], thresholds[place], branches[place]);
            System.arraycopy(parts, place * BRANCHES, fork.parts, 0, BRANCHES);
            fork.settleParts();
        }

        /** A node without weight keeps the class it has: that of the node above when it was made. */
        void keepWeights(int place, int[] classWeights) {
            System.arraycopy(classWeights, 0, weights, place * CLASSES, CLASSES);
            if (totalWeight(place) > 0) {
                types[place] = firstGreatest(classWeights, 0, CLASSES);
            }
        }

        /** The node at one place, with what is below it, is put at another. */
        void moveNode(int from, int to) {
            attributes[to] = attributes[from];
            thresholds[to] = thresholds[from];
            branches[to] = branches[from];
            types[to] = types[from];
            System.arraycopy(weights, from * CLASSES, weights, to * CLASSES, CLASSES);
            System.arraycopy(parts, from * BRANCHES, parts, to * BRANCHES, BRANCHES);
            System.arraycopy(children, from * BRANCHES, children, to * BRANCHES, BRANCHES);
        }

        int heaviestBelow(int place) {
            int best = below(place, 0);
            for (int branch = 1; branch < branches[place]; branch++) {
                int other = below(place, branch);
                if (totalWeight(other) > totalWeight(best)) {
                    best = other;
                }
            }
            return best;
        }

        void numberNodes() {
            size = 0;
            numberFrom(0, 0);
        }

        private void numberFrom(int place, int depth) {
            order[size] = place;
            numbers[place] = size;
            size++;
            if (depth >= DEPTH) {
                return;
            }
            for (int branch = 0; branch < branches[place]; branch++) {
                numberFrom(below(place, branch), depth + 1);
            }
        }
    }

    /** Grows the tree from the cases that there are. */
    private static final class Grower {
        final Cases book;
        final Tree tree;
        final Path path;
        final Tester tester;
        private int minimum = 1;

        Grower(Cases book, Tree tree, Path path, Tester tester) {
            this.book = book;
            this.tree = tree;
            this.path = path;
            this.tester = tester;
        }

        void plant(int minimum) {
            this.minimum = minimum;
            tree.made = 0;
            tree.count = book.count;
            path.start(book.count);
            growFrom(tree.makeNode(0), 0, 0);
            tree.numberNodes();
        }

        /** The discrete attributes that are tested above are bits of closed. */
        private void growFrom(int place, int depth, int closed) {
            path.tallyClasses(depth);
            tree.keepWeights(place, path.classWeights);
            if (depth >= DEPTH || hasTooLittle()) {
                return;
            }
            for (int attribute = 0; attribute < book.attributes; attribute++) {
                if ((closed >> attribute & 1) == 1) {
                    tester.findings[attribute].there = false;
                } else {
                    tester.examine(attribute, path.rows[depth], minimum);
                }
            }
            int attribute = tester.chosen();
            if (attribute == NOTHING) {
                return;
            }
            fork(place, depth, attribute);
            int closedBelow = book.isContinuous(attribute) ? closed : closed | 1 << attribute;
            for (int branch = 0; branch < tree.branches[place]; branch++) {
                int child = tree.makeNode(tree.types[place]);
                tree.children[place * BRANCHES + branch] = child;
                path.goDown(depth, branch);
                growFrom(child, depth + 1, closedBelow);
            }
        }

        /** Too little weight to part, or nothing to tell apart, in the classes just tallied. */
        private boolean hasTooLittle() {
            int present = 0;
            for (int type = 0; type < CLASSES; type++) {
                if (path.classWeights[type] > 0) {
                    present++;
                }
            }
            return present <= 1 || sum(path.classWeights, 0, CLASSES) < 2 * WHOLE * minimum;
        }

        private void fork(int place, int depth, int attribute) {
            int threshold = tester.findings[attribute].threshold;
            path.forks[depth].setTest(attribute, threshold, book.branchesOf(attribute));
            path.tallyParts(depth);
            tree.keepTest(place, path.forks[depth]);
        }
    }

    /** Prunes the tree with the cases it was grown from. */
    private static final class Pruner {
        final Tree tree;
        final Path path;
        private int charge = 0;

        Pruner(Tree tree, Path path) {
            this.tree = tree;
            this.path = path;
        }

        void pruneAll(int charge) {
            this.charge = charge;
            path.start(tree.count);
            sendFrom(0, 0, true);
            pruneFrom(0, 0);
            tree.numberNodes();
        }

        /**
         * Sends the cases that have weights at a depth down from a node and answers its errors
         * then. The depth need not be that of the node: a node is tried in the place of another.
         * The tree takes over the new weights, parts and classes only where they are to be kept.
         */
        private int sendFrom(int place, int depth, boolean kept) {
            path.tallyClasses(depth);
            if (kept) {
                tree.keepWeights(place, path.classWeights);
            }
            if (tree.isLeaf(place) || depth >= DEPTH) {
                return leafErrors(path.classWeights, 0);
            }
            Fork fork = path.forks[depth];
            fork.setTest(tree.attributes[place], tree.thresholds[place], tree.branches[place]);
            path.tallyParts(depth);
            if (kept) {
                tree.keepTest(place, fork);
            }
            int errors = 0;
            for (int branch = 0; branch < tree.branches[place]; branch++) {
                path.goDown(depth, branch);
                errors += sendFrom(tree.below(place, branch), depth + 1, kept);
            }
            return errors;
        }

        /** Prunes a node, and first what is below it; answers its errors after that. */
        private int pruneFrom(int place, int depth) {
            if (tree.isLeaf(place) || depth >= DEPTH) {
                return leafErrors(tree.weights, place * CLASSES);
            }
            tree.readTest(place, path.forks[depth]);
            int errors = 0;
            for (int branch = 0; branch < tree.branches[place]; branch++) {
                path.goDown(depth, branch);
                errors += pruneFrom(tree.below(place, branch), depth + 1);
            }
            int leaf = leafErrors(tree.weights, place * CLASSES);
            int heaviest = tree.heaviestBelow(place);
            int raised = sendFrom(heaviest, depth, false);
            if (leaf <= raised && leaf <= errors) {
                tree.becomeLeaf(place);
                return leaf;
            }
            if (raised <= errors) {
                tree.moveNode(heaviest, place);
                return sendFrom(place, depth, true);
            }
            return errors;
        }

        private int leafErrors(int[] row, int from) {
            int total = sum(row, from, CLASSES);
            if (total == 0) {
                return 0;
            }
            return total - row[from + firstGreatest(row, from, CLASSES)] + charge;
        }
    }

    /** Classifies cases by the tree. */
    private static final class Judge {
        final Tree tree;
        final Path path;
        final int[] given = new int[CLASSES];

        Judge(Tree tree, Path path) {
            this.tree = tree;
            this.path = path;
        }

        /** The class with the greatest share; the shares are in given then. */
        int classFor(int[] values) {
            Arrays.fill(given, 0);
            giveFrom(0, 0, WHOLE, values);
            return firstGreatest(given, 0, CLASSES);
        }

        private void giveFrom(int place, int depth, int weight, int[] values) {
            if (tree.isLeaf(place) || depth >= DEPTH) {
                shareOut(place, weight);
                return;
            }
            Fork fork = path.forks[depth];
            tree.readTest(place, fork);
            for (int branch = 0; branch < fork.branches; branch++) {
                int passed = fork.passed(weight, values[fork.attribute], branch);
                if (passed > 0) {
                    giveFrom(tree.below(place, branch), depth + 1, passed, values);
                }
            }
        }

        private void shareOut(int place, int weight) {
            int total = tree.totalWeight(place);
            int left = weight;
            for (int type = 0; type < CLASSES && total > 0; type++) {
                int portion = weight * tree.weights[place * CLASSES + type] / total;
                given[type] += portion;
                left -= portion;
            }
            given[tree.types[place]] += left;
        }
    }
}
