/**
 * An object is used for at most 512 calls: what the promises 1 to 20 say holds up to the 512th.
 * Later answers are free, but no call may throw (rule 7 of LANGUAGE.md).
 */
public final class CallsTest {
    private static final int CALLS = 512;
    private static final Check check = new Check();
    private static final String[] CASES = {"0 0 5 2", "1 1 7 0", "2 1 9 0", "1 -1 8 1", "0 0 -1 -1", "2 1 9 2",
        "0 0 6 1", "1 1 12 0", "2 -1 30 1", "0 1 -1 2"};
    private static final int MADE = 3 + CASES.length;

    private interface Call {
        long of(CaseTree x);
    }

    private record Named(String name, Call call) { }

    private static final Named[] KINDS = {
        new Named("promise 2: attribute(2)", x -> x.attribute(2)),
        new Named("promise 3: add(2, 1, 9, 0, 0)", x -> x.add(2, 1, 9, 0, 0)),
        new Named("promise 4: grow(2)", x -> x.grow(2)),
        new Named("promise 5: prune(200)", x -> x.prune(200)),
        new Named("promise 6: classify(1, -1, -1, 0)", x -> x.classify(1, -1, -1, 0)),
        new Named("promise 7: share(2)", x -> x.share(2)),
        new Named("promise 8: wrong()", x -> x.wrong()),
        new Named("promise 9: gain(0, 1)", x -> x.gain(0, 1)),
        new Named("promise 10: split(1, 2)", x -> x.split(1, 2)),
        new Named("promise 11: cut(1, 1)", x -> x.cut(1, 1)),
        new Named("promise 12: cases()", x -> x.cases()),
        new Named("promise 13: nodes()", x -> x.nodes()),
        new Named("promise 14: tested(0)", x -> x.tested(0)),
        new Named("promise 15: threshold(0)", x -> x.threshold(0)),
        new Named("promise 16: child(0, 1)", x -> x.child(0, 1)),
        new Named("promise 17: classOf(1)", x -> x.classOf(1)),
        new Named("promise 18: weight(0, 2)", x -> x.weight(0, 2)),
        new Named("promise 19: part(0, 1)", x -> x.part(0, 1)),
        new Named("promise 20: log(81)", x -> x.log(81))};

    public static void main(String[] args) {
        for (Named kind : KINDS) {
            lastCall(kind);
            manyAlike(kind);
            furtherCalls(kind);
        }
        lastAttribute();
        lastCase();
        onlyAttributes();
        onlyCases();
        check.end();
    }

    private static CaseTree made() {
        return Make.of("2 0 3", CASES);
    }

    /** Calls of all kinds, also refused ones; they add nothing. */
    private static void mixed(CaseTree x, int calls) {
        for (int i = 0; i < calls; i++) {
            Named kind = KINDS[i % KINDS.length];
            if (i % KINDS.length == 1) {
                x.add(i, 9, 9, 9, 9);
            } else {
                kind.call().of(x);
            }
        }
    }

    private static void lastCall(Named kind) {
        check.part("the 512th call, " + kind.name());
        CaseTree x = made();
        mixed(x, CALLS - MADE - 3);
        CaseTree y = made();
        for (CaseTree one : new CaseTree[] {x, y}) {
            one.grow(1);
            one.classify(-1, 9, -1, 0);
        }
        check.due("the answer", kind.call().of(x), kind.call().of(y));
    }

    /** The first calls may still change something: add goes on until there are 24 cases. */
    private static void alike(Named kind, String of, CaseTree x, int made) {
        check.part("calls of one kind up to the 512th, " + of + ", " + kind.name());
        long due = 0;
        for (int call = made + 1; call <= CALLS; call++) {
            long got = kind.call().of(x);
            due = call <= made + 25 ? got : due;
            check.due("call " + call, got, due);
        }
    }

    private static void manyAlike(Named kind) {
        alike(kind, "a new object", new CaseTree(), 0);
        CaseTree leaf = Make.of("", "1");
        leaf.grow(1);
        alike(kind, "one leaf", leaf, 2);
        CaseTree tree = made();
        tree.grow(1);
        alike(kind, "a tree", tree, MADE + 1);
    }

    private static void furtherCalls(Named kind) {
        check.part("calls behind the 512th end, " + kind.name());
        CaseTree x = made();
        for (int call = 0; call < 3 * CALLS; call++) {
            mixed(x, 1 + call % KINDS.length);
            kind.call().of(x);
        }
    }

    private static void lastAttribute() {
        check.part("the 512th call, promise 2: a fourth attribute");
        CaseTree x = Make.of("2 3 4");
        for (int call = 4; call < CALLS; call++) {
            check.due("attribute(5)", x.attribute(5), CaseTree.BAD);
        }
        check.due("attribute(0)", x.attribute(0), 3);
    }

    private static void lastCase() {
        check.part("the 512th call, promise 3: a 24th case");
        CaseTree x = Make.of("2", "23x 0 1");
        for (int call = 25; call < CALLS; call++) {
            check.due("add(3, ..)", x.add(3, 0, 0, 0, 0), CaseTree.BAD);
        }
        check.due("add(0, 1, ..)", x.add(0, 1, 0, 0, 0), 23);
    }

    private static void onlyAttributes() {
        check.part("512 calls, promise 2");
        CaseTree x = new CaseTree();
        for (int call = 0; call < CALLS; call++) {
            check.due("call " + call, x.attribute(0), call < 4 ? call : CaseTree.FULL);
        }
    }

    private static void onlyCases() {
        check.part("512 calls, promise 3");
        CaseTree x = new CaseTree();
        for (int call = 0; call < CALLS; call++) {
            check.due("call " + call, x.add(call % 3, call, call, call, call), call < 24 ? call : CaseTree.FULL);
        }
    }
}
