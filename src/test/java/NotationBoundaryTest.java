/**
 * Promises 2 and 3 where they hold of doubles and floats alike: a test for each piece of their
 * sentences that names a boundary case.
 */
final class NotationBoundaryTest {
    public static void main(String[] args) {
        ranges();
        withoutSign();
        infinityAndNaN();
        scientific();
        rounding();
        exponent();
        fixed();
        shorter();
        groups();
        point();
        lengths();
        Checks.end();
    }

    private static void ranges() {
        leastAndMostDigits();
        digitsOutOfRange();
        kindOutOfRange();
    }

    private static void leastAndMostDigits() {
        Checks.sentence("p 0 .. 1200");
        Checks.both(0, 0, false, false, 1.5f, "2e+00");
        Checks.both(1, 0, false, false, 1.5f, "2");
        Checks.both(2, 0, false, false, 1.5f, "2");
        Checks.both(0, 1199, false, false, 1.5f, "1.5" + "0".repeat(1198) + "e+00");
        Checks.both(1, 1199, false, false, 1.5f, "1.5" + "0".repeat(1198));
        Checks.both(2, 1199, false, false, 1.5f, "1.5" + "0".repeat(1197));
        Checks.both(0, 1200, false, false, 1.5f, "1.5" + "0".repeat(1199) + "e+00");
        Checks.both(1, 1200, false, false, 1.5f, "1.5" + "0".repeat(1199));
        Checks.both(2, 1200, false, false, 1.5f, "1.5" + "0".repeat(1198));
    }

    private static void digitsOutOfRange() {
        Checks.sentence("p 0 .. 1200: a number out of range");
        int[] none = {-1, 1201, -1200, 1456, 65536, Integer.MIN_VALUE, Integer.MAX_VALUE};
        for (int p : none) {
            for (int kind = 0; kind <= 2; kind++) {
                Checks.bothRefuse(kind, p);
            }
        }
    }

    private static void kindOutOfRange() {
        Checks.sentence("kind 0 .. 2: a number out of range");
        int[] none = {-1, 3, -2, 4, 256, Integer.MIN_VALUE, Integer.MAX_VALUE};
        for (int kind : none) {
            Checks.bothRefuse(kind, 0);
            Checks.bothRefuse(kind, 1200);
            Checks.bothRefuse(kind, -1);
            Checks.bothRefuse(kind, 1201);
        }
    }

    private static void withoutSign() {
        Checks.sentence("a number without its sign");
        Checks.both(0, 2, false, false, -0.0f, "0.00e+00");
        Checks.both(1, 2, false, false, -0.0f, "0.00");
        Checks.both(2, 2, false, false, -0.0f, "0.0");
        Checks.both(0, 2, false, false, -12.5f, "1.25e+01");
        Checks.both(1, 2, false, false, -12.5f, "12.50");
        Checks.both(2, 3, false, false, -12.5f, "12.5");
        Checks.both(1, 0, false, false, -0.25f, "0");
    }

    private static void infinityAndNaN() {
        Checks.sentence("infinity, NaN: Infinity, NaN");
        boolean[] either = {false, true};
        for (int kind = 0; kind <= 2; kind++) {
            for (boolean groups : either) {
                for (boolean point : either) {
                    Checks.both(kind, 0, groups, point, Float.POSITIVE_INFINITY, "Infinity");
                    Checks.both(kind, 1200, groups, point, Float.NEGATIVE_INFINITY, "Infinity");
                    Checks.both(kind, 0, groups, point, Float.NaN, "NaN");
                    Checks.both(kind, 1200, groups, point, Float.NaN, "NaN");
                }
            }
        }
    }

    private static void scientific() {
        Checks.sentence("kind 0: p digits behind the point");
        Checks.both(0, 0, false, false, 7.0f, "7e+00");
        Checks.both(0, 1, false, false, 7.0f, "7.0e+00");
        Checks.both(0, 2, false, false, 0.0625f, "6.25e-02");
        Checks.both(0, 3, false, false, 0.0625f, "6.250e-02");
        Checks.sentence("one before that is 0 only for 0");
        Checks.both(0, 0, false, false, 0.0f, "0e+00");
        Checks.both(0, 1, false, false, 0.0f, "0.0e+00");
        Checks.both(0, 0, false, false, 0x1p-30f, "9e-10");
        Checks.both(0, 2, false, false, 0x1p-149f, "1.40e-45");
        Checks.sentence("one before: rounding carries into a new digit");
        Checks.both(0, 0, false, false, 9.5f, "1e+01");
        Checks.both(0, 1, false, false, 9.96875f, "1.0e+01");
        Checks.both(0, 2, false, false, 999.5f, "1.00e+03");
        Checks.both(0, 1, false, false, 0.96875f, "9.7e-01");
        Checks.both(0, 0, false, false, 0.96875f, "1e+00");
        Checks.both(0, 2, false, false, 0.099999f, "1.00e-01");
        Checks.both(0, 5, false, false, 9999999.0f, "1.00000e+07");
        Checks.both(0, 6, false, false, 9999999.0f, "9.999999e+06");
    }

    private static void rounding() {
        halvesUpScientific();
        halvesUpFixed();
        halvesUpShorter();
        justBelowHalf();
        roundedOnce();
    }

    /** Behind even and odd digits, as halves to even would differ, and with a sign, as halves up with it would. */
    private static void halvesUpScientific() {
        Checks.sentence("kind 0: halves up (of what is without sign)");
        Checks.both(0, 0, false, false, 1.5f, "2e+00");
        Checks.both(0, 0, false, false, 2.5f, "3e+00");
        Checks.both(0, 0, false, false, -1.5f, "2e+00");
        Checks.both(0, 0, false, false, -2.5f, "3e+00");
        Checks.both(0, 0, false, false, 25.0f, "3e+01");
        Checks.both(0, 0, false, false, -25.0f, "3e+01");
        Checks.both(0, 1, false, false, 1.25f, "1.3e+00");
        Checks.both(0, 1, false, false, -1.75f, "1.8e+00");
        Checks.both(0, 7, false, false, 0x1p-9f, "1.9531250e-03");
        Checks.both(0, 5, false, false, 0x1p-9f, "1.95313e-03");
    }

    private static void halvesUpFixed() {
        Checks.sentence("kind 1: rounded likewise");
        Checks.both(1, 0, false, false, 0.5f, "1");
        Checks.both(1, 0, false, false, 1.5f, "2");
        Checks.both(1, 0, false, false, 2.5f, "3");
        Checks.both(1, 0, false, false, -0.5f, "1");
        Checks.both(1, 0, false, false, -1.5f, "2");
        Checks.both(1, 0, false, false, -2.5f, "3");
        Checks.both(1, 1, false, false, 0.25f, "0.3");
        Checks.both(1, 1, false, false, -0.75f, "0.8");
        Checks.both(1, 2, false, false, 0.125f, "0.13");
        Checks.both(1, 2, false, false, 0.375f, "0.38");
        Checks.both(1, 8, false, false, 0x1p-9f, "0.00195313");
        Checks.both(1, 9, false, false, 0x1p-9f, "0.001953125");
        Checks.both(1, 0, false, false, 9.5f, "10");
        Checks.both(1, 1, false, false, 99.96875f, "100.0");
    }

    private static void halvesUpShorter() {
        Checks.sentence("kind 2: rounded to p digits");
        Checks.both(2, 1, false, false, 1.5f, "2");
        Checks.both(2, 1, false, false, 2.5f, "3");
        Checks.both(2, 1, false, false, -2.5f, "3");
        Checks.both(2, 2, false, false, 0.125f, "0.13");
        Checks.both(2, 2, false, false, 0.375f, "0.38");
        Checks.both(2, 2, false, false, 125.0f, "1.3e+02");
        Checks.both(2, 2, false, false, 135.0f, "1.4e+02");
        Checks.both(2, 6, false, false, 0x1p-9f, "0.00195313");
        Checks.both(2, 9, false, false, 0x1p-14f, "6.10351563e-05");
    }

    /** One step below a half is another number as a float than as a double. */
    private static void justBelowHalf() {
        Checks.sentence("rounded from the exact value: less than half");
        float[] halves = {0.5f, 1.5f, 2.5f, 9.5f, 99.5f};
        String[] below = {"0", "1", "2", "9", "99"};
        for (int i = 0; i < halves.length; i++) {
            Checks.show(1, 0, false, false, Math.nextDown((double) halves[i]), below[i]);
            Checks.showFloat(1, 0, false, false, Math.nextDown(halves[i]), below[i]);
        }
        Checks.show(0, 0, false, false, Math.nextDown(9.5), "9e+00");
        Checks.showFloat(0, 0, false, false, Math.nextDown(9.5f), "9e+00");
        Checks.show(0, 1, false, false, Math.nextDown(99.5), "9.9e+01");
        Checks.showFloat(0, 1, false, false, Math.nextDown(99.5f), "9.9e+01");
        Checks.show(2, 1, false, false, Math.nextDown(9.5), "9");
        Checks.showFloat(2, 1, false, false, Math.nextDown(9.5f), "9");
    }

    /** Rounding to more digits before, or from the shortest text that names the number, would answer otherwise. */
    private static void roundedOnce() {
        Checks.sentence("rounded once");
        Checks.both(1, 0, false, false, 0.4453125f, "0");
        Checks.both(1, 0, false, false, 1.4960938f, "1");
        Checks.both(0, 0, false, false, 2.4960938f, "2e+00");
        Checks.both(2, 1, false, false, 2.4960938f, "2");
        Checks.both(2, 3, false, false, 999.4960938f, "999");
        Checks.show(1, 1, false, false, 0.35, "0.3");
        Checks.show(0, 1, false, false, 1.15, "1.1e+00");
        Checks.show(2, 2, false, false, 1.15, "1.1");
        Checks.show(1, 1, false, false, 0.45, "0.5");
        Checks.showFloat(1, 1, false, false, 0.85f, "0.9");
        Checks.showFloat(1, 1, false, false, 0.35f, "0.3");
        Checks.showFloat(0, 1, false, false, 1.15f, "1.1e+00");
        Checks.showFloat(2, 2, false, false, 1.15f, "1.1");
    }

    private static void exponent() {
        Checks.sentence("e, + or -");
        Checks.both(0, 0, false, false, 1.0f, "1e+00");
        Checks.both(0, 1, false, false, 0.5f, "5.0e-01");
        Checks.both(0, 1, false, false, 10.0f, "1.0e+01");
        Checks.sentence("two digits at least");
        Checks.both(0, 1, false, false, 1e9f, "1.0e+09");
        Checks.both(0, 1, false, false, 1e10f, "1.0e+10");
        Checks.both(0, 1, false, false, 2e-9f, "2.0e-09");
        Checks.both(0, 1, false, false, 2e-10f, "2.0e-10");
        Checks.both(0, 1, false, false, 2e38f, "2.0e+38");
        Checks.both(0, 1, false, false, 2e-38f, "2.0e-38");
        Checks.both(2, 1, false, false, 1e9f, "1e+09");
        Checks.both(2, 1, false, false, 2e-10f, "2e-10");
        Checks.sentence("of 0: e+00");
        Checks.both(0, 0, false, false, 0.0f, "0e+00");
        Checks.both(0, 0, false, false, -0.0f, "0e+00");
        Checks.both(0, 1200, false, false, 0.0f, "0." + "0".repeat(1200) + "e+00");
    }

    private static void fixed() {
        Checks.sentence("kind 1: p digits behind the point");
        Checks.both(1, 0, false, false, 0.0f, "0");
        Checks.both(1, 1, false, false, 0.0f, "0.0");
        Checks.both(1, 1200, false, false, 0.0f, "0." + "0".repeat(1200));
        Checks.both(1, 0, false, false, 1.0f, "1");
        Checks.both(1, 1, false, false, 1.0f, "1.0");
        Checks.both(1, 3, false, false, 0.0625f, "0.063");
        Checks.both(1, 1, false, false, 0.0625f, "0.1");
        Checks.both(1, 1, false, false, 0.03125f, "0.0");
        Checks.both(1, 0, false, false, 0x1p-149f, "0");
        Checks.both(1, 44, false, false, 0x1p-149f, "0." + "0".repeat(44));
        Checks.both(1, 45, false, false, 0x1p-149f, "0." + "0".repeat(44) + "1");
        Checks.both(1, 0, false, false, 0x1p64f, "18446744073709551616");
        Checks.both(1, 2, false, false, 0.99609375f, "1.00");
        Checks.both(1, 0, false, false, 999999.5f, "1000000");
    }

    private static void shorter() {
        noDigitsAreOne();
        shorterZero();
        shorterFromTenToMinusFour();
        shorterBelowTenToTheP();
        shorterDigitsBehind();
        shorterElseScientific();
    }

    private static void noDigitsAreOne() {
        Checks.sentence("kind 2: p (0: 1)");
        float[] numbers = {0.0f, 3.0f, 9.5f, 10.0f, 0.5f, 0x1p-13f, 0x1p-14f};
        String[] due = {"0", "3", "1e+01", "1e+01", "0.5", "0.0001", "6e-05"};
        for (int i = 0; i < numbers.length; i++) {
            Checks.both(2, 0, false, false, numbers[i], due[i]);
            Checks.both(2, 1, false, false, numbers[i], due[i]);
        }
    }

    private static void shorterZero() {
        Checks.sentence("it is 0 .. (for 0: p - 1)");
        Checks.both(2, 1, false, false, 0.0f, "0");
        Checks.both(2, 2, false, false, 0.0f, "0.0");
        Checks.both(2, 6, false, false, -0.0f, "0.00000");
        Checks.both(2, 1200, false, false, 0.0f, "0." + "0".repeat(1199));
    }

    /** 10^-4 is neither a double nor a float: the nearest are a little more and a little less than it. */
    private static void shorterFromTenToMinusFour() {
        Checks.sentence("rounded to p digits it is .. 10^-4 or more");
        Checks.show(2, 6, false, false, 1e-4, "0.000100000");
        Checks.show(2, 16, false, false, Math.nextDown(1e-4), "9.999999999999999e-05");
        Checks.show(2, 15, false, false, Math.nextDown(1e-4), "0.000100000000000000");
        Checks.show(2, 30, false, false, 1e-4, "0.000100000000000000004792173602386");
        Checks.show(2, 6, false, false, 9.999995e-5, "0.000100000");
        Checks.show(2, 6, false, false, 9.999994e-5, "9.99999e-05");
        Checks.showFloat(2, 6, false, false, 1e-4f, "0.000100000");
        Checks.showFloat(2, 9, false, false, 1e-4f, "9.99999975e-05");
        Checks.showFloat(2, 8, false, false, 1e-4f, "9.9999997e-05");
        Checks.showFloat(2, 7, false, false, 1e-4f, "0.0001000000");
        Checks.showFloat(2, 9, false, false, Math.nextUp(1e-4f), "0.000100000005");
        Checks.both(2, 1, false, false, 0.000095f, "0.0001");
        Checks.both(2, 1, false, false, 0.000094f, "9e-05");
        Checks.both(2, 2, false, false, 0.000094f, "9.4e-05");
        Checks.both(2, 1200, false, false, 0x1p-13f, "0.0001220703125" + "0".repeat(1190));
        Checks.both(2, 1200, false, false, 0x1p-14f, "6.103515625" + "0".repeat(1190) + "e-05");
    }

    private static void shorterBelowTenToTheP() {
        Checks.sentence("rounded to p digits it is .. below 10^p");
        Checks.both(2, 1, false, false, 9.0f, "9");
        Checks.both(2, 1, false, false, 9.25f, "9");
        Checks.both(2, 1, false, false, 9.5f, "1e+01");
        Checks.both(2, 1, false, false, 10.0f, "1e+01");
        Checks.both(2, 2, false, false, 10.0f, "10");
        Checks.both(2, 2, false, false, 99.25f, "99");
        Checks.both(2, 2, false, false, 99.5f, "1.0e+02");
        Checks.both(2, 3, false, false, 999.0f, "999");
        Checks.both(2, 3, false, false, 999.5f, "1.00e+03");
        Checks.both(2, 3, false, false, 1000.0f, "1.00e+03");
        Checks.both(2, 4, false, false, 1000.0f, "1000");
        Checks.both(2, 7, false, false, 9999999.0f, "9999999");
        Checks.both(2, 6, false, false, 9999999.0f, "1.00000e+07");
        Checks.both(2, 10, false, false, 1e10f, "1.000000000e+10");
        Checks.both(2, 11, false, false, 1e10f, "10000000000");
    }

    private static void shorterDigitsBehind() {
        Checks.sentence("as many behind the point as make p digits with those before");
        Checks.both(2, 4, false, false, 1.5f, "1.500");
        Checks.both(2, 4, false, false, 12.5f, "12.50");
        Checks.both(2, 4, false, false, 123.5f, "123.5");
        Checks.both(2, 4, false, false, 1234.5f, "1235");
        Checks.both(2, 4, false, false, 9.999755859375f, "10.00");
        Checks.both(2, 5, false, false, 99.9998779296875f, "100.00");
        Checks.both(2, 3, false, false, 99.96875f, "100");
        Checks.sentence("below 1 zeros before the first one do not count");
        Checks.both(2, 3, false, false, 0.5f, "0.500");
        Checks.both(2, 3, false, false, 0.0625f, "0.0625");
        Checks.both(2, 3, false, false, 0x1p-7f, "0.00781");
        Checks.both(2, 3, false, false, 0x1p-10f, "0.000977");
        Checks.both(2, 1, false, false, 0.0625f, "0.06");
        Checks.sentence("below 1: rounding carries into a new digit");
        Checks.both(2, 2, false, false, 0.99609375f, "1.0");
        Checks.both(2, 1, false, false, 0.99609375f, "1");
        Checks.both(2, 2, false, false, 0.09999f, "0.10");
        Checks.both(2, 2, false, false, 0.009999f, "0.010");
        Checks.both(2, 2, false, false, 0.0009999f, "0.0010");
    }

    private static void shorterElseScientific() {
        Checks.sentence("else as kind 0 with p - 1");
        Checks.both(2, 1, false, false, 20.0f, "2e+01");
        Checks.both(2, 2, false, false, 200.0f, "2.0e+02");
        Checks.both(2, 1, false, false, 0x1p-20f, "1e-06");
        Checks.both(2, 3, false, false, 0x1p-20f, "9.54e-07");
    }

    private static void groups() {
        Checks.sentence("a , between groups of three digits before the point");
        Checks.both(1, 0, true, false, 0.0f, "0");
        Checks.both(1, 0, true, false, 100.0f, "100");
        Checks.both(1, 0, true, false, 999.0f, "999");
        Checks.both(1, 0, true, false, 999.5f, "1,000");
        Checks.both(1, 0, true, false, 1000.0f, "1,000");
        Checks.both(1, 0, true, false, 99999.0f, "99,999");
        Checks.both(1, 0, true, false, 999999.0f, "999,999");
        Checks.both(1, 0, true, false, 999999.5f, "1,000,000");
        Checks.both(1, 6, true, false, 0.5f, "0.500000");
        Checks.both(1, 6, true, false, 1234.5f, "1,234.500000");
        Checks.both(1, 6, false, false, 1234.5f, "1234.500000");
        Checks.sentence("groups: 1, and 2 where it is as 1");
        Checks.both(2, 3, true, false, 999.0f, "999");
        Checks.both(2, 4, true, false, 1000.0f, "1,000");
        Checks.both(2, 4, true, false, 999.96875f, "1,000");
        Checks.both(2, 4, false, false, 999.96875f, "1000");
        Checks.both(2, 10, true, false, 1234.5f, "1,234.500000");
        Checks.both(2, 8, true, false, 0x1p-10f, "0.00097656250");
        Checks.both(2, 6, true, false, 0.0f, "0.00000");
        Checks.both(2, 3, true, false, 1234.0f, "1.23e+03");
        Checks.both(0, 6, true, false, 1234.5f, "1.234500e+03");
    }

    private static void point() {
        Checks.sentence("a point where there is none (0, 1)");
        Checks.both(0, 0, false, true, 0.0f, "0.e+00");
        Checks.both(0, 0, false, true, 9.5f, "1.e+01");
        Checks.both(0, 0, false, false, 9.5f, "1e+01");
        Checks.both(1, 0, false, true, 0.0f, "0.");
        Checks.both(1, 0, false, true, 9.5f, "10.");
        Checks.both(1, 0, true, true, 1000.0f, "1,000.");
        Checks.both(1, 0, false, false, 9.5f, "10");
        Checks.sentence("where there is none: not where there is one");
        Checks.both(0, 1, false, true, 9.5f, "9.5e+00");
        Checks.both(1, 1, false, true, 9.5f, "9.5");
        Checks.sentence("a point (0, 1): not 2");
        Checks.both(2, 0, false, true, 0.0f, "0");
        Checks.both(2, 1, false, true, 7.0f, "7");
        Checks.both(2, 4, true, true, 1000.0f, "1,000");
        Checks.both(2, 1, false, true, 10.0f, "1e+01");
        Checks.both(2, 2, false, true, 7.0f, "7.0");
    }

    /** Checks.both looks at the answer too; these are the least. */
    private static void lengths() {
        Checks.sentence("Answers how many bytes");
        Checks.both(1, 0, false, false, 0.0f, "0");
        Checks.both(2, 0, true, true, 9.0f, "9");
        Checks.both(0, 0, false, false, 0.0f, "0e+00");
        Checks.both(0, 0, false, false, Float.NaN, "NaN");
    }
}
