/** Objects for tests, told by short texts. */
final class Make {
    private Make() {
    }

    /**
     * An object with attributes of some kinds ("2 0": one of two values, one continuous) and cases,
     * each told by its class and its values ("1 0 -1"); "3x 1 0 -1" stands for three such cases.
     */
    static CaseTree of(String kinds, String... cases) {
        CaseTree x = new CaseTree();
        for (int kind : numbers(kinds)) {
            taken(x.attribute(kind), kinds);
        }
        add(x, cases);
        return x;
    }

    static void add(CaseTree x, String... cases) {
        for (String one : cases) {
            int times = one.indexOf('x') < 0 ? 1 : Integer.parseInt(one.substring(0, one.indexOf('x')));
            int[] row = java.util.Arrays.copyOf(numbers(one.substring(one.indexOf('x') + 1)), 5);
            for (int i = 0; i < times; i++) {
                taken(x.add(row[0], row[1], row[2], row[3], row[4]), one);
            }
        }
    }

    private static int[] numbers(String text) {
        String plain = text.trim();
        if (plain.isEmpty()) {
            return new int[0];
        }
        return java.util.Arrays.stream(plain.split(" +")).mapToInt(Integer::parseInt).toArray();
    }

    private static void taken(int answer, String what) {
        if (answer < 0) {
            throw new IllegalStateException("refused: " + what);
        }
    }
}
