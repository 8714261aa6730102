/** Counts the answers that are not as due and tells them. */
final class Check {
    private int wrong = 0;
    private String part = "";

    void part(String name) {
        part = name;
    }

    void due(String call, long got, long want) {
        if (got != want) {
            fail(call + " answered " + got + ", due is " + want);
        }
    }

    void holds(String what, boolean so) {
        if (!so) {
            fail(what);
        }
    }

    void fail(String what) {
        wrong++;
        if (wrong <= 20) {
            System.out.println(part + ": " + what);
        }
    }

    int wrong() {
        return wrong;
    }

    void end() {
        if (wrong > 0) {
            System.out.println(wrong + " answers are not as due");
            System.exit(1);
        }
    }

    /** A node: the attribute that is tested there, the threshold, the class and the class weights. */
    void node(CaseTree x, int node, int tested, int threshold, int type, int... weights) {
        due("tested(" + node + ")", x.tested(node), tested);
        due("threshold(" + node + ")", x.threshold(node), threshold);
        due("classOf(" + node + ")", x.classOf(node), type);
        for (int i = 0; i < weights.length; i++) {
            due("weight(" + node + ", " + i + ")", x.weight(node, i), weights[i]);
        }
    }

    /** The parts of all branches of a node, none for a leaf. */
    void parts(CaseTree x, int node, int... parts) {
        for (int branch = 0; branch < parts.length; branch++) {
            due("part(" + node + ", " + branch + ")", x.part(node, branch), parts[branch]);
        }
        due("part(" + node + ", " + parts.length + ")", x.part(node, parts.length), -1);
    }

    void shares(CaseTree x, int... shares) {
        for (int type = 0; type < 3; type++) {
            due("share(" + type + ")", x.share(type), shares[type]);
        }
    }

    /**
     * Two objects answer the same: of one a refused call was asked, of the other it was not. With
     * trees of up to 15 nodes each is asked fewer than 350 times.
     */
    void same(CaseTree x, CaseTree y) {
        due("cases()", x.cases(), y.cases());
        due("wrong()", x.wrong(), y.wrong());
        due("nodes()", x.nodes(), y.nodes());
        for (int node = 0; node < y.nodes() && node < 15; node++) {
            sameNode(x, y, node);
        }
        for (int attribute = 0; attribute < 4; attribute++) {
            for (int minimum = 1; minimum <= 5; minimum++) {
                String call = "(" + attribute + ", " + minimum + ")";
                due("gain" + call, x.gain(attribute, minimum), y.gain(attribute, minimum));
                due("split" + call, x.split(attribute, minimum), y.split(attribute, minimum));
                due("cut" + call, x.cut(attribute, minimum), y.cut(attribute, minimum));
            }
        }
        for (int type = 0; type < 3; type++) {
            due("share(" + type + ")", x.share(type), y.share(type));
        }
        due("classify", x.classify(-1, -1, -1, -1), y.classify(-1, -1, -1, -1));
        for (int type = 0; type < 3; type++) {
            due("share(" + type + ") then", x.share(type), y.share(type));
        }
    }

    private void sameNode(CaseTree x, CaseTree y, int node) {
        due("tested(" + node + ")", x.tested(node), y.tested(node));
        due("threshold(" + node + ")", x.threshold(node), y.threshold(node));
        due("classOf(" + node + ")", x.classOf(node), y.classOf(node));
        for (int i = 0; i < 4; i++) {
            String call = "(" + node + ", " + i + ")";
            due("child" + call, x.child(node, i), y.child(node, i));
            due("part" + call, x.part(node, i), y.part(node, i));
            due("weight" + call, x.weight(node, i), y.weight(node, i));
        }
    }
}
