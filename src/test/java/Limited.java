import java.util.ArrayList;
import java.util.List;

/**
 * A CaseTree for runs of any length. An object is used for 512 calls at most; before the next one
 * it is made anew, and the calls that were not refused and that may have changed it are asked again.
 */
final class Limited {
    private static final int CALLS = 512;

    private interface Call {
        int of(CaseTree tree);
    }

    private final List<Call> changes = new ArrayList<>();
    private CaseTree tree = new CaseTree();
    private int calls = 0;

    private CaseTree next() {
        if (calls == CALLS) {
            tree = new CaseTree();
            for (Call change : changes) {
                change.of(tree);
            }
            calls = changes.size();
        }
        calls++;
        return tree;
    }

    private int change(Call call) {
        int answer = call.of(next());
        if (answer >= 0) {
            changes.add(call);
        }
        if (changes.size() >= CALLS) {
            throw new IllegalStateException("a run with too many changes");
        }
        return answer;
    }

    int attribute(int values) {
        return change(x -> x.attribute(values));
    }

    int add(int type, int a, int b, int c, int d) {
        return change(x -> x.add(type, a, b, c, d));
    }

    int grow(int minimum) {
        return change(x -> x.grow(minimum));
    }

    int prune(int charge) {
        return change(x -> x.prune(charge));
    }

    int classify(int a, int b, int c, int d) {
        return change(x -> x.classify(a, b, c, d));
    }

    int share(int type) {
        return next().share(type);
    }

    int wrong() {
        return next().wrong();
    }

    long gain(int attribute, int minimum) {
        return next().gain(attribute, minimum);
    }

    long split(int attribute, int minimum) {
        return next().split(attribute, minimum);
    }

    int cut(int attribute, int minimum) {
        return next().cut(attribute, minimum);
    }

    int cases() {
        return next().cases();
    }

    int nodes() {
        return next().nodes();
    }

    int tested(int node) {
        return next().tested(node);
    }

    int threshold(int node) {
        return next().threshold(node);
    }

    int child(int node, int branch) {
        return next().child(node, branch);
    }

    int classOf(int node) {
        return next().classOf(node);
    }

    int weight(int node, int type) {
        return next().weight(node, type);
    }

    int part(int node, int branch) {
        return next().part(node, branch);
    }

    int log(int n) {
        return next().log(n);
    }
}
