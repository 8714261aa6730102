/** Promises 9, 10, 11 and 20: gain, split, cut, log. Weights are told in cases of 720. */
public final class MeasuringTest {
    private static final Check check = new Check();
    private static final long BIT = 720 * 256;

    public static void main(String[] args) {
        logValues();
        logBounds();
        discreteTest();
        unknownValues();
        minimumOfDiscrete();
        continuousTest();
        minimumOfContinuous();
        lowestOfSeveralThresholds();
        gainOfZeroAndBelow();
        wrongArguments();
        theCasesThatThereAreNow();
        check.end();
    }

    private static void logValues() {
        check.part("promise 20");
        CaseTree x = new CaseTree();
        for (int n = 1; n <= 32767; n++) {
            // an object is used for 512 calls at most
            x = n % 500 == 0 ? new CaseTree() : x;
            int got = x.log(n);
            check.due("log(" + n + ")", got, Reference.log(n));
            double exact = 256 * Math.log(n) / Math.log(2);
            check.holds("log(" + n + ") is near the logarithm", got <= exact + 1e-6 && got > exact - 2);
        }
        for (int k = 0; k < 15; k++) {
            check.due("log of 2 to the " + k, x.log(1 << k), 256 * k);
        }
        check.due("log(3)", x.log(3), 405);
        check.due("log(6)", x.log(6), 661);
    }

    private static void logBounds() {
        check.part("promise 20");
        CaseTree x = new CaseTree();
        check.due("log(1)", x.log(1), 0);
        check.due("log(32767)", x.log(32767), 3839);
        for (int n : new int[] {0, -1, -720, Integer.MIN_VALUE, 32768, 65536, Integer.MAX_VALUE}) {
            check.due("log(" + n + ")", x.log(n), -1);
        }
    }

    /** Two cases of class 0 and two of class 1. */
    private static CaseTree four(int kind, int a, int b, int c, int d) {
        CaseTree x = new CaseTree();
        x.attribute(kind);
        x.add(0, a, 0, 0, 0);
        x.add(0, b, 0, 0, 0);
        x.add(1, c, 0, 0, 0);
        x.add(1, d, 0, 0, 0);
        return x;
    }

    private static void discreteTest() {
        check.part("promises 9, 10 and 11, discrete");
        CaseTree x = four(2, 0, 0, 1, 1);
        check.due("gain", x.gain(0, 1), 4 * BIT);
        check.due("split", x.split(0, 1), 4 * BIT);
        check.due("cut", x.cut(0, 1), -1);
        CaseTree fine = four(4, 0, 1, 2, 3);
        check.due("gain", fine.gain(0, 1), 4 * BIT);
        check.due("split into four", fine.split(0, 1), 8 * BIT);
        check.due("cut", fine.cut(0, 1), -1);
    }

    private static void unknownValues() {
        check.part("promises 9 and 10, with unknown values");
        CaseTree x = four(2, 0, -1, 1, -1);
        check.due("gain only of what is known", x.gain(0, 1), 2 * BIT);
        // parts 1 and 1, with 2 whose value is not known: 2 * 2 + 2 * 1
        check.due("split", x.split(0, 1), 6 * BIT);
        CaseTree none = four(2, -1, -1, -1, -1);
        check.due("gain", none.gain(0, 1), -1);
        CaseTree noneThere = four(0, -1, -1, -1, -1);
        check.due("gain", noneThere.gain(0, 1), -1);
        check.due("cut", noneThere.cut(0, 1), -1);
        CaseTree low = four(0, -1, 0, 1, -1);
        check.due("cut at 0, which is a value", low.cut(0, 1), 0);
        check.due("gain", low.gain(0, 1), 2 * BIT);
        check.due("split", low.split(0, 1), 6 * BIT);
    }

    private static void minimumOfDiscrete() {
        check.part("promise 9, minimum");
        CaseTree x = four(2, 0, 0, 1, 1);
        check.due("gain(0, 2)", x.gain(0, 2), 4 * BIT);
        check.due("gain(0, 3)", x.gain(0, 3), -1);
        check.due("split(0, 3)", x.split(0, 3), -1);
        CaseTree one = four(2, 0, 0, 0, 1);
        check.due("gain(0, 1)", one.gain(0, 1) > 0 ? 1 : 0, 1);
        check.due("gain(0, 2), one part too small", one.gain(0, 2), -1);
        CaseTree three = four(3, 0, 0, 2, 2);
        check.due("two large parts of three", three.gain(0, 2), 4 * BIT);
        CaseTree ten = new CaseTree();
        ten.attribute(3);
        for (int i = 0; i < 11; i++) {
            ten.add(i < 5 ? 0 : 1, i < 5 ? 0 : i < 10 ? 1 : 2, 0, 0, 0);
        }
        check.holds("gain(0, 5)", ten.gain(0, 5) > 0);
        check.due("gain(0, 6)", ten.gain(0, 6), -1);
    }

    private static void continuousTest() {
        check.part("promises 9, 10 and 11, continuous");
        CaseTree x = four(0, 5, 7, 100, 999);
        // three valid tests: 720 * LOG(3) is taken off
        check.due("gain", x.gain(0, 1), 4 * BIT - 720 * 405);
        check.due("split", x.split(0, 1), 4 * BIT);
        check.due("cut", x.cut(0, 1), 7);
        CaseTree equal = four(0, 3, 3, 3, 3);
        check.due("gain with one value", equal.gain(0, 1), -1);
        check.due("split with one value", equal.split(0, 1), -1);
        check.due("cut with one value", equal.cut(0, 1), -1);
        CaseTree two = four(0, 998, 998, 999, 999);
        check.due("gain of the only test", two.gain(0, 1), 4 * BIT);
        check.due("cut", two.cut(0, 1), 998);
    }

    private static void minimumOfContinuous() {
        check.part("promises 9 and 11, minimum");
        CaseTree x = four(0, 1, 2, 3, 4);
        check.due("one valid test", x.gain(0, 2), 4 * BIT);
        check.due("cut(0, 2)", x.cut(0, 2), 2);
        check.due("none", x.gain(0, 3), -1);
        check.due("cut(0, 3)", x.cut(0, 3), -1);
        CaseTree six = new CaseTree();
        six.attribute(0);
        int[] types = {0, 1, 1, 1, 1, 1};
        for (int i = 0; i < 6; i++) {
            six.add(types[i], 10 * i, 0, 0, 0);
        }
        check.due("cut(0, 1)", six.cut(0, 1), 0);
        check.due("cut(0, 2): the best is not valid", six.cut(0, 2), 10);
        check.due("cut(0, 3)", six.cut(0, 3), 20);
    }

    private static void lowestOfSeveralThresholds() {
        check.part("promise 11, of several the lowest");
        CaseTree x = new CaseTree();
        x.attribute(0);
        x.add(0, 30, 0, 0, 0);
        x.add(1, 20, 0, 0, 0);
        x.add(0, 10, 0, 0, 0);
        check.due("cut", x.cut(0, 1), 10);
        check.due("split", x.split(0, 1), 720 * (x.log(2160) - x.log(720)) + 1440L * (x.log(2160) - x.log(1440)));
    }

    private static void gainOfZeroAndBelow() {
        check.part("promise 9, zero and below");
        CaseTree zero = four(2, 0, 1, 0, 1);
        check.due("gain", zero.gain(0, 1), 0);
        check.due("split", zero.split(0, 1), 4 * BIT);
        CaseTree below = four(0, 0, 3, 1, 2);
        check.due("gain", below.gain(0, 1), -2);
        check.due("cut", below.cut(0, 1), 0);
        check.holds("split is told all the same", below.split(0, 1) > 0);
        CaseTree pure = new CaseTree();
        pure.attribute(0);
        for (int i = 0; i < 3; i++) {
            pure.add(1, i, 0, 0, 0);
        }
        check.due("gain of 0 less a bit", pure.gain(0, 1), -2);
    }

    private static void wrongArguments() {
        check.part("promises 9, 10 and 11, wrong arguments");
        CaseTree x = four(0, 1, 2, 3, 4);
        int[][] bad = {{-1, 1}, {1, 1}, {4, 1}, {0, 0}, {0, -1}, {0, 6},
            {Integer.MIN_VALUE, 1}, {Integer.MAX_VALUE, 1}, {0, Integer.MAX_VALUE}, {0, Integer.MIN_VALUE}};
        for (int[] pair : bad) {
            check.due("gain", x.gain(pair[0], pair[1]), -1);
            check.due("split", x.split(pair[0], pair[1]), -1);
            check.due("cut", x.cut(pair[0], pair[1]), -1);
        }
        CaseTree empty = new CaseTree();
        empty.attribute(2);
        empty.attribute(0);
        for (int attribute = 0; attribute < 2; attribute++) {
            check.due("gain without cases", empty.gain(attribute, 1), -1);
            check.due("split without cases", empty.split(attribute, 1), -1);
            check.due("cut without cases", empty.cut(attribute, 1), -1);
        }
    }

    private static void theCasesThatThereAreNow() {
        check.part("promises 9, 10 and 11, after more cases");
        CaseTree x = four(0, 1, 2, 3, 4);
        x.grow(1);
        int nodes = x.nodes();
        x.add(0, 3, 0, 0, 0);
        x.add(0, 3, 0, 0, 0);
        x.add(0, 3, 0, 0, 0);
        check.due("cut", x.cut(0, 1), 3);
        check.due("the tree is not touched", x.nodes(), nodes);
        check.due("its threshold", x.threshold(0), 2);
    }
}
