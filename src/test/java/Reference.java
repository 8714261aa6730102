import java.math.BigInteger;
import java.util.ArrayList;
import java.util.Arrays;
import java.util.List;
import java.util.TreeSet;

/**
 * The document told once more, without regard to speed or room: nodes are objects, each with the
 * weights of all cases; what is tried is tried on copies.
 */
final class Reference {
    static final int BAD = -1;
    static final int FULL = -2;
    static final int NONE = -3;

    private static final class Node {
        int[] weights = new int[0];
        int type = 0;
        int attribute = -1;
        int threshold = -1;
        final List<Node> children = new ArrayList<>();

        boolean leaf() {
            return children.isEmpty();
        }

        Node copy() {
            Node twin = new Node();
            twin.become(this);
            for (int i = 0; i < twin.children.size(); i++) {
                twin.children.set(i, twin.children.get(i).copy());
            }
            return twin;
        }

        void become(Node other) {
            weights = other.weights.clone();
            type = other.type;
            attribute = other.attribute;
            threshold = other.threshold;
            List<Node> nodes = new ArrayList<>(other.children);
            children.clear();
            children.addAll(nodes);
        }
    }

    /** Of all growing so far: how often what the document says of it was met. */
    int raised = 0;
    int leaved = 0;
    int emptyNodes = 0;
    int emptiedNodes = 0;
    int farThresholds = 0;
    int averageMattered = 0;
    int gainsBelowZero = 0;
    int knownZero = 0;

    private final List<Integer> kinds = new ArrayList<>();
    private final List<int[]> rows = new ArrayList<>();
    private final List<Integer> types = new ArrayList<>();
    private Node root = null;
    private int[] shares = new int[3];

    int attribute(int values) {
        if (!(values == 0 || values == 2 || values == 3 || values == 4) || !rows.isEmpty()) {
            return BAD;
        }
        if (kinds.size() == 4) {
            return FULL;
        }
        kinds.add(values);
        return kinds.size() - 1;
    }

    int add(int type, int a, int b, int c, int d) {
        int[] row = {a, b, c, d};
        if (type < 0 || type > 2 || !good(row)) {
            return BAD;
        }
        if (rows.size() == 24) {
            return FULL;
        }
        rows.add(row);
        types.add(type);
        return rows.size() - 1;
    }

    private boolean good(int[] row) {
        for (int i = 0; i < kinds.size(); i++) {
            int values = kinds.get(i) == 0 ? 1000 : kinds.get(i);
            if (row[i] != -1 && (row[i] < 0 || row[i] >= values)) {
                return false;
            }
        }
        return true;
    }

    static int log(int n) {
        if (n < 1 || n > 32767) {
            return -1;
        }
        BigInteger one = BigInteger.ONE.shiftLeft(14);
        int k = BigInteger.valueOf(n).bitLength() - 1;
        BigInteger m = BigInteger.valueOf(n).multiply(one).divide(BigInteger.ONE.shiftLeft(k));
        int l = k;
        for (int i = 0; i < 8; i++) {
            m = m.multiply(m).divide(one);
            l *= 2;
            if (m.compareTo(one.multiply(BigInteger.TWO)) >= 0) {
                m = m.divide(BigInteger.TWO);
                l++;
            }
        }
        return l;
    }

    static long information(int... weights) {
        int total = Arrays.stream(weights).sum();
        long information = 0;
        for (int weight : weights) {
            if (weight > 0) {
                information += (long) weight * (log(total) - log(weight));
            }
        }
        return information;
    }

    private int[] allWhole() {
        int[] weights = new int[rows.size()];
        Arrays.fill(weights, 720);
        return weights;
    }

    private int[] classWeights(int[] weights) {
        int[] sums = new int[3];
        for (int i = 0; i < weights.length; i++) {
            sums[types.get(i)] += weights[i];
        }
        return sums;
    }

    private int branches(int attribute) {
        return kinds.get(attribute) == 0 ? 2 : kinds.get(attribute);
    }

    private int branch(int attribute, int threshold, int value) {
        if (kinds.get(attribute) == 0) {
            return value > threshold ? 1 : 0;
        }
        return value;
    }

    /** The weights of the cases whose known value leads into the branch, the others 0. */
    private int[] leading(int[] weights, int attribute, int threshold, int branch) {
        int[] some = new int[weights.length];
        for (int i = 0; i < weights.length; i++) {
            int value = rows.get(i)[attribute];
            if (value != -1 && branch(attribute, threshold, value) == branch) {
                some[i] = weights[i];
            }
        }
        return some;
    }

    private int[] parts(int[] weights, int attribute, int threshold) {
        int[] parts = new int[branches(attribute)];
        for (int b = 0; b < parts.length; b++) {
            parts[b] = Arrays.stream(leading(weights, attribute, threshold, b)).sum();
        }
        return parts;
    }

    private record Found(int attribute, int threshold, long gain, long split) { }

    private Found measured(int[] weights, int attribute, int threshold, int minimum) {
        int[] parts = parts(weights, attribute, threshold);
        if (Arrays.stream(parts).filter(p -> p >= 720 * minimum).count() < 2) {
            return null;
        }
        int[] known = new int[weights.length];
        long below = 0;
        for (int b = 0; b < parts.length; b++) {
            int[] some = leading(weights, attribute, threshold, b);
            below += information(classWeights(some));
            for (int i = 0; i < some.length; i++) {
                known[i] += some[i];
            }
        }
        int[] pieces = Arrays.copyOf(parts, parts.length + 1);
        pieces[parts.length] = Arrays.stream(weights).sum() - Arrays.stream(parts).sum();
        long gain = information(classWeights(known)) - below;
        return new Found(attribute, threshold, gain, information(pieces));
    }

    private Found test(int[] weights, int attribute, int minimum) {
        if (kinds.get(attribute) != 0) {
            return measured(weights, attribute, -1, minimum);
        }
        TreeSet<Integer> all = new TreeSet<>();
        TreeSet<Integer> here = new TreeSet<>();
        for (int i = 0; i < weights.length; i++) {
            int value = rows.get(i)[attribute];
            if (value != -1) {
                all.add(value);
                if (weights[i] > 0) {
                    here.add(value);
                }
            }
        }
        List<Found> valid = new ArrayList<>();
        for (int x : here) {
            Integer y = here.higher(x);
            if (y == null) {
                continue;
            }
            int threshold = all.floor((x + y) / 2);
            if (threshold != x) {
                farThresholds++;
            }
            Found found = measured(weights, attribute, threshold, minimum);
            if (found != null) {
                valid.add(found);
            }
        }
        Found best = null;
        for (Found found : valid) {
            if (best == null || found.gain() > best.gain()
                    || found.gain() == best.gain() && found.threshold() < best.threshold()) {
                best = found;
            }
        }
        if (best == null) {
            return null;
        }
        long gain = best.gain() - 720L * log(valid.size());
        return new Found(attribute, best.threshold(), gain, best.split());
    }

    private Found rootTest(int attribute, int minimum) {
        if (attribute < 0 || attribute >= kinds.size() || minimum < 1 || minimum > 5) {
            return null;
        }
        return test(allWhole(), attribute, minimum);
    }

    long gain(int attribute, int minimum) {
        Found found = rootTest(attribute, minimum);
        if (found != null && found.gain() < 0) {
            gainsBelowZero++;
        }
        return found == null ? -1 : found.gain() < 0 ? -2 : found.gain();
    }

    long split(int attribute, int minimum) {
        Found found = rootTest(attribute, minimum);
        return found == null ? -1 : found.split();
    }

    int cut(int attribute, int minimum) {
        Found found = rootTest(attribute, minimum);
        return found == null || kinds.get(attribute) != 0 ? -1 : found.threshold();
    }

    private static int greatest(int[] numbers) {
        int best = 0;
        for (int i = 0; i < numbers.length; i++) {
            if (numbers[i] > numbers[best]) {
                best = i;
            }
        }
        return best;
    }

    /** What each branch gets of a weight. */
    private int[] sent(int weight, int value, int attribute, int threshold, int[] parts) {
        int[] gets = new int[parts.length];
        int known = Arrays.stream(parts).sum();
        if (value != -1) {
            gets[branch(attribute, threshold, value)] = weight;
        } else if (known == 0) {
            knownZero++;
            gets[0] = weight;
        } else {
            int rest = weight;
            for (int b = 0; b < parts.length; b++) {
                gets[b] = weight * parts[b] / known;
                rest -= gets[b];
            }
            gets[greatest(parts)] += rest;
        }
        return gets;
    }

    private int[] sentDown(int[] weights, int attribute, int threshold, int branch) {
        int[] parts = parts(weights, attribute, threshold);
        int[] below = new int[weights.length];
        for (int i = 0; i < weights.length; i++) {
            below[i] = sent(weights[i], rows.get(i)[attribute], attribute, threshold, parts)[branch];
        }
        return below;
    }

    int grow(int minimum) {
        if (minimum < 1 || minimum > 5) {
            return BAD;
        }
        if (rows.isEmpty()) {
            return NONE;
        }
        root = grown(allWhole(), minimum, 0, new ArrayList<>(), 0);
        return nodes();
    }

    private Node grown(int[] weights, int minimum, int depth, List<Integer> above, int typeAbove) {
        Node node = new Node();
        node.weights = weights;
        int total = Arrays.stream(weights).sum();
        int[] classes = classWeights(weights);
        node.type = total == 0 ? typeAbove : greatest(classes);
        emptyNodes += total == 0 ? 1 : 0;
        if (depth == 3 || total < 1440 * minimum
                || Arrays.stream(classes).filter(c -> c > 0).count() <= 1) {
            return node;
        }
        Found best = chosen(weights, minimum, above);
        if (best == null) {
            return node;
        }
        node.attribute = best.attribute();
        node.threshold = best.threshold();
        List<Integer> aboveThere = new ArrayList<>(above);
        aboveThere.add(best.attribute());
        for (int b = 0; b < branches(best.attribute()); b++) {
            int[] below = sentDown(weights, best.attribute(), best.threshold(), b);
            node.children.add(grown(below, minimum, depth + 1, aboveThere, node.type));
        }
        return node;
    }

    private Found chosen(int[] weights, int minimum, List<Integer> above) {
        List<Found> gainful = new ArrayList<>();
        for (int a = 0; a < kinds.size(); a++) {
            boolean again = kinds.get(a) != 0 && above.contains(a);
            Found found = again ? null : test(weights, a, minimum);
            if (found != null && found.gain() > 0) {
                gainful.add(found);
            }
        }
        BigInteger sum = BigInteger.ZERO;
        for (Found found : gainful) {
            sum = sum.add(BigInteger.valueOf(found.gain()));
        }
        Found best = null;
        Found bestOfAll = null;
        for (Found found : gainful) {
            BigInteger many = BigInteger.valueOf(found.gain()).multiply(BigInteger.valueOf(gainful.size()));
            if (many.compareTo(sum) >= 0) {
                best = best == null || better(found, best) ? found : best;
            }
            bestOfAll = bestOfAll == null || better(found, bestOfAll) ? found : bestOfAll;
        }
        averageMattered += best != bestOfAll ? 1 : 0;
        return best;
    }

    private static boolean better(Found one, Found other) {
        BigInteger left = BigInteger.valueOf(one.gain()).multiply(BigInteger.valueOf(other.split()));
        BigInteger right = BigInteger.valueOf(other.gain()).multiply(BigInteger.valueOf(one.split()));
        return left.compareTo(right) > 0;
    }

    int prune(int charge) {
        if (charge < 0 || charge > 2000) {
            return BAD;
        }
        if (root == null) {
            return NONE;
        }
        sendAnew(root, root.weights);
        prune(root, charge);
        return nodes();
    }

    private void prune(Node node, int charge) {
        for (Node child : node.children) {
            prune(child, charge);
        }
        if (node.leaf()) {
            return;
        }
        Node leaf = node.copy();
        makeLeaf(leaf);
        int a = errors(leaf, charge);
        Node heaviest = node.children.get(0);
        for (Node child : node.children) {
            if (Arrays.stream(child.weights).sum() > Arrays.stream(heaviest.weights).sum()) {
                heaviest = child;
            }
        }
        Node tried = heaviest.copy();
        sendAnew(tried, node.weights);
        int c = errors(tried, charge);
        int e = errors(node, charge);
        if (a <= c && a <= e) {
            leaved++;
            makeLeaf(node);
        } else if (c <= e) {
            raised++;
            node.become(tried);
        }
    }

    private static void makeLeaf(Node node) {
        node.children.clear();
        node.attribute = -1;
        node.threshold = -1;
    }

    private int errors(Node node, int charge) {
        if (node.leaf()) {
            int total = Arrays.stream(node.weights).sum();
            return total - classWeights(node.weights)[node.type] + (total > 0 ? charge : 0);
        }
        int errors = 0;
        for (Node child : node.children) {
            errors += errors(child, charge);
        }
        return errors;
    }

    private void sendAnew(Node node, int[] weights) {
        boolean wasFull = Arrays.stream(node.weights).sum() > 0;
        node.weights = weights.clone();
        if (Arrays.stream(weights).sum() > 0) {
            node.type = greatest(classWeights(weights));
        } else if (wasFull) {
            emptiedNodes++;
        }
        for (int b = 0; b < node.children.size(); b++) {
            sendAnew(node.children.get(b), sentDown(weights, node.attribute, node.threshold, b));
        }
    }

    int classify(int a, int b, int c, int d) {
        int[] row = {a, b, c, d};
        if (!good(row)) {
            return BAD;
        }
        if (root == null) {
            return NONE;
        }
        shares = sharesOf(row);
        return greatest(shares);
    }

    private int[] sharesOf(int[] row) {
        int[] given = new int[3];
        give(root, 720, row, given);
        return given;
    }

    private void give(Node node, int weight, int[] row, int[] given) {
        if (!node.leaf()) {
            int[] parts = parts(node.weights, node.attribute, node.threshold);
            int[] gets = sent(weight, row[node.attribute], node.attribute, node.threshold, parts);
            for (int b = 0; b < gets.length; b++) {
                give(node.children.get(b), gets[b], row, given);
            }
            return;
        }
        int total = Arrays.stream(node.weights).sum();
        int rest = weight;
        for (int type = 0; type < 3 && total > 0; type++) {
            int portion = weight * classWeights(node.weights)[type] / total;
            given[type] += portion;
            rest -= portion;
        }
        given[node.type] += rest;
    }

    int share(int type) {
        return type < 0 || type > 2 ? 0 : shares[type];
    }

    int wrong() {
        if (root == null) {
            return NONE;
        }
        int wrong = 0;
        for (int i = 0; i < rows.size(); i++) {
            wrong += greatest(sharesOf(rows.get(i))) == types.get(i) ? 0 : 1;
        }
        return wrong;
    }

    int cases() {
        return rows.size();
    }

    int nodes() {
        return numbered().size();
    }

    private List<Node> numbered() {
        List<Node> nodes = new ArrayList<>();
        if (root != null) {
            number(root, nodes);
        }
        return nodes;
    }

    private static void number(Node node, List<Node> nodes) {
        nodes.add(node);
        for (Node child : node.children) {
            number(child, nodes);
        }
    }

    private Node at(int number) {
        List<Node> nodes = numbered();
        return number < 0 || number >= nodes.size() ? null : nodes.get(number);
    }

    int tested(int number) {
        Node node = at(number);
        return node == null ? -1 : node.attribute;
    }

    int threshold(int number) {
        Node node = at(number);
        return node == null ? -1 : node.threshold;
    }

    int child(int number, int branch) {
        Node node = at(number);
        if (node == null || branch < 0 || branch >= node.children.size()) {
            return -1;
        }
        return numbered().indexOf(node.children.get(branch));
    }

    int classOf(int number) {
        Node node = at(number);
        return node == null ? -1 : node.type;
    }

    int weight(int number, int type) {
        Node node = at(number);
        return node == null || type < 0 || type > 2 ? -1 : classWeights(node.weights)[type];
    }

    int part(int number, int branch) {
        Node node = at(number);
        if (node == null || branch < 0 || branch >= node.children.size()) {
            return -1;
        }
        return parts(node.weights, node.attribute, node.threshold)[branch];
    }
}
