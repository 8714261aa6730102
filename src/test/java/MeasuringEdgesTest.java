/**
 * Promises 9, 10, 11 and 20, sentence by sentence: gain, split, cut, log, and what the terms LOG,
 * INFORMATION, VALID and threshold say of them. A unit is 720, the weight of a case at the root.
 */
public final class MeasuringEdgesTest {
    private static final Check check = new Check();
    private static final int LOW = Integer.MIN_VALUE;
    private static final int HIGH = Integer.MAX_VALUE;
    private static final long UNIT = 720;
    /** 720 * LOG(2). */
    private static final long BIT = 256 * UNIT;
    /** Their only attribute has no test: with one part above 0 it is never valid. */
    private static final String[] ONE_VALUE = {"2x 0 1", "2x 1 1"};

    public static void main(String[] args) {
        logOfOne();
        logOfTheTop();
        logAroundPowersOfTwo();
        logRoundsDown();

        weightsOfZero();
        informationOfNothing();
        unknownInTheSplit();
        partsAtAndBelowTheMinimum();
        valuesAtAndBelowTheMinimum();
        twoPartsAtLeast();
        unknownIsNoPart();
        numberOfValidTests();
        allValuesDifferent();
        meanThatIsNoValue();
        greatestGain();
        lowestThreshold();

        gainOfZero();
        gainJustAboveZero();
        gainBelowZero();
        noTest();
        noSuchAttribute();
        minimums();
        minimumOfThisCall();
        cutOfDiscrete();
        withoutCases();
        casesThatThereAreNow();
        atTheRootWhateverTheTree();
        askingLeavesAll();
        check.end();
    }

    private static void logOfOne() {
        check.part("promise 20: LOG for 1, -1 below it");
        CaseTree x = new CaseTree();
        check.due("log(1)", x.log(1), 0);
        check.due("log(2)", x.log(2), 256);
        for (int n : new int[] {0, -1, -2, -32767, LOW}) {
            check.due("log(" + n + ")", x.log(n), -1);
        }
    }

    private static void logOfTheTop() {
        check.part("promise 20: LOG for 32767, -1 above it");
        CaseTree x = new CaseTree();
        check.due("log(32766)", x.log(32766), 3839);
        check.due("log(32767)", x.log(32767), 3839);
        for (int n : new int[] {32768, 32769, 65535, 65536, HIGH}) {
            check.due("log(" + n + ")", x.log(n), -1);
        }
    }

    private static void logAroundPowersOfTwo() {
        check.part("promise 20: 2^k <= n < 2^(k+1)");
        CaseTree x = new CaseTree();
        int[] below = {0, 405, 718, 1000, 1268, 1530, 1789, 2046, 2303, 2559, 2815, 3071, 3327, 3583};
        int[] above = {405, 594, 811, 1046, 1291, 1541, 1794, 2049, 2304, 2560, 2816, 3072, 3328, 3584};
        for (int k = 1; k <= 14; k++) {
            int power = 1 << k;
            check.due("log(" + (power - 1) + ")", x.log(power - 1), below[k - 1]);
            check.due("log(" + power + ")", x.log(power), 256 * k);
            check.due("log(" + (power + 1) + ")", x.log(power + 1), above[k - 1]);
        }
    }

    /** 256 times the logarithm of 81 is 1623.001; what is rounded down eight times falls below. */
    private static void logRoundsDown() {
        check.part("promise 20: rounded down");
        CaseTree x = new CaseTree();
        int[][] due = {{81, 1622}, {162, 1878}, {187, 1931}, {324, 2134}, {374, 2187}, {6, 661}, {720, 2429},
            {17280, 3603}, {23170, 3711}, {23171, 3712}};
        for (int[] pair : due) {
            check.due("log(" + pair[0] + ")", x.log(pair[0]), pair[1]);
        }
    }

    private static void weightsOfZero() {
        check.part("promise 9: information over those weights that are above 0");
        for (String kind : new String[] {"2", "3", "4"}) {
            CaseTree x = Make.of(kind, "2x 0 0", "2x 1 1");
            check.due("gain(0, 1), kind " + kind, x.gain(0, 1), 4 * BIT);
            check.due("split(0, 1), kind " + kind, x.split(0, 1), 4 * BIT);
        }
        CaseTree gap = Make.of("4", "2x 0 1", "2x 2 3");
        check.due("gain(0, 1) with branches 0 and 2 empty", gap.gain(0, 1), 4 * BIT);
        check.due("split(0, 1) with branches 0 and 2 empty", gap.split(0, 1), 4 * BIT);
    }

    private static void informationOfNothing() {
        check.part("promise 9: information is 0 when T is 0");
        CaseTree pure = Make.of("3", "2x 2 0", "2x 2 2");
        check.due("gain(0, 1) with one class", pure.gain(0, 1), 0);
        check.due("split(0, 1) with one class", pure.split(0, 1), 4 * BIT);
        CaseTree unknown = Make.of("3 0", "2x 0 -1 -1", "2x 1 -1 -1");
        check.due("gain(0, 1) with K = 0", unknown.gain(0, 1), -1);
        check.due("gain(1, 1) with K = 0", unknown.gain(1, 1), -1);
        check.due("split(0, 1) with K = 0", unknown.split(0, 1), -1);
        check.due("split(1, 1) with K = 0", unknown.split(1, 1), -1);
    }

    private static void unknownInTheSplit() {
        check.part("promise 10: the parts together with the weight W - K");
        check.due("W - K = 0", Make.of("2", "0 0", "1 1").split(0, 1), 2 * BIT);
        CaseTree one = Make.of("2", "0 0", "1 1", "1 -1");
        check.due("split with W - K = 720", one.split(0, 1), Reference.information(720, 720, 720));
        check.due("gain of the two that are known", one.gain(0, 1), 2 * BIT);
        CaseTree many = Make.of("0", "0 0", "1 1", "2x 1 -1");
        check.due("split with W - K = 1440", many.split(0, 1), 6 * BIT);
    }

    private static void partsAtAndBelowTheMinimum() {
        for (int m = 1; m <= 5; m++) {
            check.part("promise 9: valid when two parts are at least 720 * " + m);
            CaseTree at = Make.of("2", m + "x 0 0", m + "x 1 1");
            check.due("gain at the minimum", at.gain(0, m), 2 * m * BIT);
            check.due("split at the minimum", at.split(0, m), 2 * m * BIT);
            CaseTree first = Make.of("2", (m - 1) + "x 0 0", (m + 1) + "x 1 1");
            check.due("gain with the first part below", first.gain(0, m), -1);
            CaseTree second = Make.of("2", (m + 1) + "x 0 0", (m - 1) + "x 1 1");
            check.due("gain with the second part below", second.gain(0, m), -1);
            check.due("split with the second part below", second.split(0, m), -1);
        }
    }

    private static void valuesAtAndBelowTheMinimum() {
        for (int m = 1; m <= 5; m++) {
            check.part("promise 11: valid when two parts are at least 720 * " + m);
            CaseTree at = Make.of("0", m + "x 0 10", m + "x 1 20");
            check.due("cut at the minimum", at.cut(0, m), 10);
            check.due("gain at the minimum", at.gain(0, m), 2 * m * BIT);
            CaseTree first = Make.of("0", (m - 1) + "x 0 10", (m + 1) + "x 1 20");
            check.due("cut with the first part below", first.cut(0, m), -1);
            CaseTree second = Make.of("0", (m + 1) + "x 0 10", (m - 1) + "x 1 20");
            check.due("cut with the second part below", second.cut(0, m), -1);
            check.due("gain with the second part below", second.gain(0, m), -1);
        }
    }

    private static void twoPartsAtLeast() {
        check.part("promise 9: at least two of its parts");
        check.due("one of four", Make.of("4", "5x 0 0", "1 1", "1 2", "1 3").gain(0, 2), -1);
        check.holds("two of four", Make.of("4", "5x 0 0", "1 1", "2x 1 2", "1 3").gain(0, 2) > 0);
        check.holds("three of four", Make.of("4", "2x 0 0", "2x 1 1", "2x 1 2", "1 3").gain(0, 2) > 0);
        check.holds("four of four", Make.of("4", "2x 0 0", "2x 1 1", "2x 1 2", "2x 1 3").gain(0, 2) > 0);
        check.due("one value only", Make.of("2", ONE_VALUE).gain(0, 1), -1);
        check.due("one value only, continuous", Make.of("0", ONE_VALUE).gain(0, 1), -1);
    }

    private static void unknownIsNoPart() {
        check.part("promise 9: W - K is no part");
        check.due("gain(0, 1)", Make.of("2", "0 0", "3x 1 -1").gain(0, 1), -1);
        check.due("gain(0, 1), continuous", Make.of("0", "0 0", "3x 1 -1").gain(0, 1), -1);
        check.due("with a second part", Make.of("2", "0 0", "1 1", "3x 1 -1").gain(0, 1), 2 * BIT);
    }

    private static void numberOfValidTests() {
        check.part("promise 9: 720 * LOG(c) is taken off, c the number of the valid tests");
        CaseTree x = Make.of("0", "0 10", "0 20", "1 30", "1 40");
        check.due("c = 1", x.gain(0, 2), 4 * BIT);
        check.due("c = 3", x.gain(0, 1), 4 * BIT - 405 * UNIT);
        CaseTree two = Make.of("0", "0 10", "0 20", "2x 1 30");
        check.due("c = 2", two.gain(0, 1), 4 * BIT - BIT);
        CaseTree five = Make.of("0", "0 1", "0 2", "0 3", "1 4", "1 5");
        check.due("c = 2 of four", five.gain(0, 2), Reference.information(2160, 1440) - BIT);
        CaseTree discrete = Make.of("4", "0 0", "0 1", "1 2", "1 3");
        check.due("nothing for a discrete one", discrete.gain(0, 1), 4 * BIT);
    }

    private static void allValuesDifferent() {
        check.part("promise 11: of 24 values 23 thresholds");
        String[] rows = new String[24];
        for (int i = 0; i < 24; i++) {
            rows[i] = (i < 23 ? "0 " : "1 ") + i;
        }
        CaseTree last = Make.of("0", rows);
        check.due("the last threshold", last.cut(0, 1), 22);
        check.due("gain, LOG(23) taken off", last.gain(0, 1), (1542 - 1158) * UNIT);
        check.due("split", last.split(0, 1), 1542 * UNIT);
        rows[0] = "1 0";
        rows[23] = "0 23";
        check.due("the first threshold", Make.of("0", rows).cut(0, 1), 0);
    }

    private static void meanThatIsNoValue() {
        check.part("promise 11: the greatest value not above (x + y) / 2 that any case has");
        int[][] due = {{10, 21}, {10, 11}, {0, 999}, {998, 999}, {0, 1}, {0, 2}, {500, 999}};
        for (int[] pair : due) {
            CaseTree x = Make.of("0", "0 " + pair[0], "1 " + pair[1], "1 -1");
            check.due("cut between " + pair[0] + " and " + pair[1], x.cut(0, 1), pair[0]);
        }
    }

    private static void greatestGain() {
        check.part("promise 11: the one with the greatest gain");
        check.due("the lower", Make.of("0", "0 1", "1 2", "1 3").cut(0, 1), 1);
        check.due("the higher", Make.of("0", "0 1", "0 2", "1 3").cut(0, 1), 2);
        CaseTree six = Make.of("0", "0 0", "1 10", "1 20", "1 30", "1 40", "1 50");
        check.due("of the valid ones for 2", six.cut(0, 2), 10);
        check.due("of the valid ones for 3", six.cut(0, 3), 20);
    }

    private static void lowestThreshold() {
        check.part("promise 11: of several the one with the lowest threshold");
        check.due("of two", Make.of("0", "0 3", "1 2", "0 1").cut(0, 1), 1);
        check.due("of the first and the third", Make.of("0", "0 4", "1 3", "1 2", "0 1").cut(0, 1), 1);
        check.due("of three without gain", Make.of("0", "0 4", "0 3", "0 2", "0 1").cut(0, 1), 1);
    }

    /** The second: four valid tests; the best has 512 units before LOG(4) = 512 is taken off. */
    private static void gainOfZero() {
        check.part("promise 9: a gain of 0");
        CaseTree discrete = Make.of("2", "0 0", "0 1", "1 0", "1 1");
        check.due("gain(0, 1)", discrete.gain(0, 1), 0);
        check.due("split(0, 1)", discrete.split(0, 1), 4 * BIT);
        CaseTree continuous = Make.of("0", "1 0", "1 1", "2 1", "0 4", "1 5", "1 6");
        check.due("gain(0, 1)", continuous.gain(0, 1), 0);
        check.due("split(0, 1)", continuous.split(0, 1), 6 * BIT);
        check.due("cut(0, 1)", continuous.cut(0, 1), 1);
    }

    private static void gainJustAboveZero() {
        check.part("promise 9: a gain just above 0");
        CaseTree discrete = Make.of("2", "0 0", "0 1", "5x 1 0", "4x 1 1");
        check.due("gain(0, 1)", discrete.gain(0, 1), 2 * UNIT);
        CaseTree continuous = Make.of("0", "1 0", "2x 0 1", "0 2", "2x 1 2", "4x 0 3", "1 3");
        check.due("gain(0, 1)", continuous.gain(0, 1), UNIT);
        check.due("cut(0, 1)", continuous.cut(0, 1), 0);
    }

    /** A discrete test falls below 0 by what LOG rounds; the continuous one by one unit. */
    private static void gainBelowZero() {
        check.part("promise 9: below 0 it is told as -2");
        CaseTree discrete = Make.of("2", "3x 0 0", "4x 1 0", "2x 0 1", "3x 1 1");
        check.due("gain(0, 1)", discrete.gain(0, 1), -2);
        check.due("split(0, 1)", discrete.split(0, 1), Reference.information(5040, 3600));
        CaseTree by1 = Make.of("0", "0 0", "0 1", "2 1", "0 2", "2x 1 2", "3x 2 2", "2x 2 3", "0 4", "2 4");
        check.due("gain(0, 1)", by1.gain(0, 1), -2);
        check.due("split(0, 1)", by1.split(0, 1), Reference.information(2160, 7200));
        check.due("cut(0, 1)", by1.cut(0, 1), 1);
        CaseTree far = Make.of("0", "0 0", "0 3", "1 1", "1 2");
        check.due("gain(0, 1)", far.gain(0, 1), -2);
        check.due("cut(0, 1)", far.cut(0, 1), 0);
    }

    private static void noTest() {
        check.part("promises 9, 10 and 11: -1 when it has no test");
        CaseTree x = Make.of("0 2", "0 5 1", "0 5 1", "1 5 1");
        for (int attribute = 0; attribute < 2; attribute++) {
            check.due("gain(" + attribute + ", 1)", x.gain(attribute, 1), -1);
            check.due("split(" + attribute + ", 1)", x.split(attribute, 1), -1);
            check.due("cut(" + attribute + ", 1)", x.cut(attribute, 1), -1);
        }
    }

    private static void noSuchAttribute() {
        check.part("promises 9, 10 and 11: -1 when there is no such attribute");
        for (int attributes = 0; attributes <= 4; attributes++) {
            CaseTree x = Make.of("0 ".repeat(attributes), "0 1 1 1 1", "1 2 2 2 2");
            for (int attribute : new int[] {LOW, -2, -1, attributes, 4, 5, HIGH}) {
                check.due("gain(" + attribute + ", 1)", x.gain(attribute, 1), -1);
                check.due("split(" + attribute + ", 1)", x.split(attribute, 1), -1);
                check.due("cut(" + attribute + ", 1)", x.cut(attribute, 1), -1);
            }
            for (int attribute = 0; attribute < attributes; attribute++) {
                check.due("gain(" + attribute + ", 1)", x.gain(attribute, 1), 2 * BIT);
                check.due("split(" + attribute + ", 1)", x.split(attribute, 1), 2 * BIT);
                check.due("cut(" + attribute + ", 1)", x.cut(attribute, 1), 1);
            }
        }
    }

    private static void minimums() {
        check.part("promises 9, 10 and 11: -1 when the minimum is not 1 .. 5");
        CaseTree x = Make.of("0 2", "6x 0 1 0", "6x 1 2 1");
        for (int attribute = 0; attribute < 2; attribute++) {
            for (int minimum : new int[] {LOW, -1, 0, 6, 7, HIGH}) {
                check.due("gain(" + attribute + ", " + minimum + ")", x.gain(attribute, minimum), -1);
                check.due("split(" + attribute + ", " + minimum + ")", x.split(attribute, minimum), -1);
                check.due("cut(" + attribute + ", " + minimum + ")", x.cut(attribute, minimum), -1);
            }
            for (int minimum = 1; minimum <= 5; minimum++) {
                check.due("gain(" + attribute + ", " + minimum + ")", x.gain(attribute, minimum), 12 * BIT);
                check.due("split(" + attribute + ", " + minimum + ")", x.split(attribute, minimum), 12 * BIT);
            }
        }
        check.due("cut(0, 1)", x.cut(0, 1), 1);
        check.due("cut(0, 5)", x.cut(0, 5), 1);
    }

    private static void minimumOfThisCall() {
        check.part("promises 9, 10 and 11: for the minimum that is asked for, not for that of the tree");
        CaseTree x = Make.of("0", "0 1", "3x 1 2");
        x.grow(5);
        check.due("cut(0, 1)", x.cut(0, 1), 1);
        check.due("split(0, 1)", x.split(0, 1), Reference.information(720, 2160));
        x.grow(1);
        check.due("gain(0, 2)", x.gain(0, 2), -1);
    }

    private static void cutOfDiscrete() {
        check.part("promise 11: -1 when the attribute is discrete");
        CaseTree x = Make.of("2 3 4 0", "0 0 0 0 0", "1 1 1 1 1");
        for (int attribute = 0; attribute < 3; attribute++) {
            check.due("gain(" + attribute + ", 1)", x.gain(attribute, 1), 2 * BIT);
            check.due("cut(" + attribute + ", 1)", x.cut(attribute, 1), -1);
        }
        check.due("cut(3, 1), a threshold of 0", x.cut(3, 1), 0);
    }

    private static void withoutCases() {
        check.part("promises 9, 10 and 11: without cases");
        CaseTree x = Make.of("2 0");
        for (int attribute = 0; attribute < 2; attribute++) {
            check.due("gain(" + attribute + ", 1)", x.gain(attribute, 1), -1);
            check.due("split(" + attribute + ", 1)", x.split(attribute, 1), -1);
            check.due("cut(" + attribute + ", 1)", x.cut(attribute, 1), -1);
        }
    }

    private static void casesThatThereAreNow() {
        check.part("promises 9, 10 and 11: with the cases that there are now");
        CaseTree x = Make.of("0", "0 10");
        check.due("gain(0, 1) with one case", x.gain(0, 1), -1);
        Make.add(x, "1 20");
        check.due("gain(0, 1) with two", x.gain(0, 1), 2 * BIT);
        x.grow(1);
        Make.add(x, "0 20", "0 20", "2 30");
        check.due("threshold(0) of the tree", x.threshold(0), 10);
        check.due("cut(0, 1) with five", x.cut(0, 1), 20);
        check.due("split(0, 1) with five", x.split(0, 1), Reference.information(2880, 720));
        check.due("gain(0, 1) with five", x.gain(0, 1),
                Reference.information(2160, 720, 720) - Reference.information(2160, 720) - BIT);
    }

    private static void atTheRootWhateverTheTree() {
        check.part("promise 9: the test at the root");
        CaseTree x = Make.of("2", "0 0", "1 1");
        x.grow(1);
        check.due("tested(0)", x.tested(0), 0);
        check.due("gain(0, 1) of what the tree tests", x.gain(0, 1), 2 * BIT);
        check.due("split(0, 1) of what the tree tests", x.split(0, 1), 2 * BIT);
        x.prune(2000);
        check.due("gain(0, 1) behind prune", x.gain(0, 1), 2 * BIT);
    }

    private static void askingLeavesAll() {
        check.part("promises 9, 10, 11 and 20: asking changes nothing");
        String[] cases = {"0 0 5", "1 1 7", "2 1 9", "1 -1 8", "0 0 -1"};
        CaseTree x = Make.of("2 0", cases);
        CaseTree y = Make.of("2 0", cases);
        x.gain(1, 1);
        x.grow(1);
        y.grow(1);
        x.classify(1, 6, 0, 0);
        y.classify(1, 6, 0, 0);
        x.gain(0, 1);
        x.gain(9, 1);
        x.split(1, 2);
        x.split(1, 6);
        x.cut(1, 5);
        x.cut(-1, 0);
        x.log(0);
        x.log(32768);
        check.same(x, y);
    }
}
