import java.math.BigDecimal;

/** "What it is" and "Terms": a test for each sentence that names a boundary case. */
final class TermsTest {
    private static final long DOUBLE_SIGN = 1L << 63;
    private static final int FLOAT_SIGN = 1 << 31;
    private static final long DOUBLE_INFINITY = 0x7FFL << 52;
    private static final int FLOAT_INFINITY = 0xFF << 23;

    public static void main(String[] args) {
        signIsTheHighestBit();
        exponentHasElevenOrEightBits();
        fractionHas52Or23Bits();
        leastPowerOfTwo();
        coefficientBelowTwoToTheP();
        coefficientIsSmallOnlyAtTheLeastPower();
        exponentAllOnesIsNotFinite();
        allNaNAreOne();
        callThatThrowsChangesNothing();
        object512CallsOld();
        object512DearestCallsOld();
        Checks.end();
    }

    private static void signIsTheHighestBit() {
        Checks.sentence("the sign, 11 or 8 of exponent, 52 or 23 of fraction");
        long[] doubles = {0L, 1L, 0x3FF8000000000000L, 0x7FEFFFFFFFFFFFFFL, DOUBLE_INFINITY};
        String[] dueOfDoubles = {"0.0e+00", "4.9e-324", "1.5e+00", "1.8e+308", "Infinity"};
        for (int i = 0; i < doubles.length; i++) {
            showDouble(0, 1, doubles[i], dueOfDoubles[i]);
            showDouble(0, 1, doubles[i] | DOUBLE_SIGN, dueOfDoubles[i]);
        }
        int[] floats = {0, 1, 0x3FC00000, 0x7F7FFFFF, FLOAT_INFINITY};
        String[] dueOfFloats = {"0.0e+00", "1.4e-45", "1.5e+00", "3.4e+38", "Infinity"};
        for (int i = 0; i < floats.length; i++) {
            showFloat(0, 1, floats[i], dueOfFloats[i]);
            showFloat(0, 1, floats[i] | FLOAT_SIGN, dueOfFloats[i]);
        }
    }

    private static void exponentHasElevenOrEightBits() {
        Checks.sentence("11 or 8 of exponent");
        for (int exponent = 1; exponent < 0x7FF; exponent++) {
            showDouble(0, 1100, (long) exponent << 52, scientific(power(exponent - 1023), 1100));
        }
        for (int exponent = 1; exponent < 0xFF; exponent++) {
            showFloat(0, 1100, exponent << 23, scientific(power(exponent - 127), 1100));
        }
    }

    private static void fractionHas52Or23Bits() {
        Checks.sentence("52 or 23 of fraction");
        BigDecimal one = BigDecimal.ONE;
        for (int bit = 0; bit < 52; bit++) {
            showDouble(1, 60, 1023L << 52 | 1L << bit, one.add(power(bit - 52)).setScale(60).toPlainString());
        }
        for (int bit = 0; bit < 23; bit++) {
            showFloat(1, 60, 127 << 23 | 1 << bit, one.add(power(bit - 23)).setScale(60).toPlainString());
        }
    }

    private static void leastPowerOfTwo() {
        Checks.sentence("E the least power of two, -1074 or -149");
        showDouble(1, 1074, 1L, power(-1074).toPlainString());
        showDouble(1, 1074, 2L, power(-1073).setScale(1074).toPlainString());
        showFloat(1, 149, 1, power(-149).toPlainString());
        showFloat(1, 149, 2, power(-148).setScale(149).toPlainString());
    }

    private static void coefficientBelowTwoToTheP() {
        Checks.sentence("c below 2^P");
        showDouble(1, 0, 1023L + 52L << 52 | (1L << 52) - 1, "9007199254740991");
        showDouble(1, 0, 1023L + 53L << 52, "9007199254740992");
        showFloat(1, 0, 127 + 23 << 23 | (1 << 23) - 1, "16777215");
        showFloat(1, 0, 127 + 24 << 23, "16777216");
        BigDecimal greatestDouble = power(1024).subtract(power(1024 - 53));
        showDouble(1, 0, DOUBLE_INFINITY - 1, greatestDouble.toPlainString());
        BigDecimal greatestFloat = power(128).subtract(power(128 - 24));
        showFloat(1, 0, FLOAT_INFINITY - 1, greatestFloat.toPlainString());
    }

    /** The greatest number without a hidden bit, the least two with one, and where q first grows. */
    private static void coefficientIsSmallOnlyAtTheLeastPower() {
        Checks.sentence("c 2^(P-1) or more, but for q = E");
        long hidden = 1L << 52;
        long[] doubles = {hidden - 1, hidden, hidden + 1, 2 * hidden - 1};
        for (long bits : doubles) {
            showDouble(1, 1074, bits, power(-1074).multiply(BigDecimal.valueOf(bits)).toPlainString());
        }
        showDouble(1, 1074, 2 * hidden, power(-1021).setScale(1074).toPlainString());
        showDouble(1, 1074, 2 * hidden + 1, power(-1021).add(power(-1073)).setScale(1074).toPlainString());
        int hiddenInFloat = 1 << 23;
        int[] floats = {hiddenInFloat - 1, hiddenInFloat, hiddenInFloat + 1, 2 * hiddenInFloat - 1};
        for (int bits : floats) {
            showFloat(1, 149, bits, power(-149).multiply(BigDecimal.valueOf(bits)).toPlainString());
        }
        showFloat(1, 149, 2 * hiddenInFloat, power(-125).setScale(149).toPlainString());
        showFloat(1, 149, 2 * hiddenInFloat + 1, power(-125).add(power(-148)).setScale(149).toPlainString());
    }

    private static void exponentAllOnesIsNotFinite() {
        Checks.sentence("a finite one");
        showDouble(0, 16, DOUBLE_INFINITY - 1, "1.7976931348623157e+308");
        showDouble(0, 16, DOUBLE_INFINITY, "Infinity");
        showDouble(0, 16, DOUBLE_INFINITY + 1, "NaN");
        showFloat(0, 8, FLOAT_INFINITY - 1, "3.40282347e+38");
        showFloat(0, 8, FLOAT_INFINITY, "Infinity");
        showFloat(0, 8, FLOAT_INFINITY + 1, "NaN");
    }

    private static void allNaNAreOne() {
        Checks.sentence("All NaN are one");
        for (int bit = 0; bit < 52; bit++) {
            showDouble(2, 9, DOUBLE_INFINITY | 1L << bit, "NaN");
            showDouble(2, 9, DOUBLE_SIGN | DOUBLE_INFINITY | 1L << bit, "NaN");
        }
        for (int bit = 0; bit < 23; bit++) {
            showFloat(2, 9, FLOAT_INFINITY | 1 << bit, "NaN");
            showFloat(2, 9, FLOAT_SIGN | FLOAT_INFINITY | 1 << bit, "NaN");
        }
        showDouble(2, 9, -1L, "NaN");
        showDouble(2, 9, Long.MAX_VALUE, "NaN");
        showFloat(2, 9, -1, "NaN");
        showFloat(2, 9, Integer.MAX_VALUE, "NaN");
    }

    private static void callThatThrowsChangesNothing() {
        Checks.sentence("A call that throws changes nothing");
        double[] numbers = {0.0, 2.125, 1e300, Double.POSITIVE_INFINITY, Double.NaN};
        String[] due = {"0.000", "2.125", fixed(1e300, 3), "Infinity", "NaN"};
        for (int i = 0; i < numbers.length; i++) {
            ExactNotation x = new ExactNotation();
            int length = x.show(1, 3, false, false, Double.doubleToRawLongBits(numbers[i]));
            refuseEachWay(x, length);
            Checks.result("after refused calls", x, length, due[i]);
            Checks.show(x, 0, 1, false, false, Double.doubleToRawLongBits(7.5), "7.5e+00");
        }
    }

    /** Numbers of another length than the one shown before, so that a change would be seen. */
    private static void refuseEachWay(ExactNotation x, int length) {
        Checks.refusesShow(x, -1, 5, Double.doubleToRawLongBits(77.75));
        Checks.refusesShow(x, 3, 5, Double.doubleToRawLongBits(Double.NaN));
        Checks.refusesShow(x, 1, -1, Double.doubleToRawLongBits(77.75));
        Checks.refusesShow(x, 2, 1201, Double.doubleToRawLongBits(Double.NEGATIVE_INFINITY));
        Checks.refusesShowFloat(x, -1, 5, Float.floatToRawIntBits(77.75f));
        Checks.refusesShowFloat(x, 3, 5, Float.floatToRawIntBits(Float.NaN));
        Checks.refusesShowFloat(x, 0, -1, Float.floatToRawIntBits(77.75f));
        Checks.refusesShowFloat(x, 2, 1201, Float.floatToRawIntBits(Float.NEGATIVE_INFINITY));
        Checks.refusesWord("before the first", x, -1);
        Checks.refusesWord("behind the last", x, length);
    }

    private static void object512CallsOld() {
        Checks.sentence("at most 512 calls");
        ExactNotation x = new ExactNotation();
        for (int call = 1; call <= 512; call += 4) {
            String due = call + ".50";
            long bits = Double.doubleToRawLongBits(call + 0.5);
            Checks.same("call " + call, x.show(1, 2, false, false, bits), due.length());
            Checks.refusesShow(x, 3, 0, 0L);
            Checks.refusesWord("call " + (call + 2), x, 6);
            Checks.same("call " + (call + 3), x.word(0), Checks.wordOf(due, 0));
        }
    }

    private static void object512DearestCallsOld() {
        Checks.sentence("at most 512 calls");
        ExactNotation x = new ExactNotation();
        for (int call = 1; call < 512; call += 2) {
            Checks.same("call " + call, x.show(1, 1200, true, true, DOUBLE_INFINITY - 1), 1612);
            Checks.same("call " + (call + 1), x.show(0, 1200, true, true, (1L << 52) - 1), 1207);
        }
    }

    private static void showDouble(int kind, int p, long bits, String due) {
        Checks.show(new ExactNotation(), kind, p, false, false, bits, due);
    }

    private static void showFloat(int kind, int p, int bits, String due) {
        Checks.showFloat(new ExactNotation(), kind, p, false, false, bits, due);
    }

    private static BigDecimal power(int two) {
        BigDecimal size = BigDecimal.valueOf(2).pow(Math.abs(two));
        return two >= 0 ? size : BigDecimal.ONE.divide(size);
    }

    private static String fixed(double value, int behind) {
        return new BigDecimal(value).setScale(behind).toPlainString();
    }

    /** For numbers that have no more digits than are asked for. */
    private static String scientific(BigDecimal value, int behind) {
        String digits = value.unscaledValue().toString();
        int exponent = digits.length() - 1 - value.scale();
        String zeros = "0".repeat(behind + 1 - digits.length());
        String sign = exponent < 0 ? "e-" : "e+";
        String two = Math.abs(exponent) < 10 ? "0" : "";
        return digits.charAt(0) + "." + digits.substring(1) + zeros + sign + two + Math.abs(exponent);
    }
}
