import java.math.BigDecimal;
import java.math.MathContext;
import java.math.RoundingMode;

/** Promises 2 and 3: many numbers, each against the same promise worked out with BigDecimal. */
final class AgainstBigDecimalTest {
    private static final int MOST_CALLS = 512;
    private static final int[] PRECISIONS = {
        0, 1, 2, 3, 4, 5, 6, 7, 8, 9, 10, 15, 16, 17, 18, 19, 20, 26, 27, 28, 35, 100, 307, 308, 309, 310, 322, 323,
        324, 325, 750, 751, 766, 767, 768, 1072, 1073, 1074, 1075, 1079, 1080, 1081, 1199, 1200
    };

    private static ExactNotation x = new ExactNotation();
    private static int calls = 0;
    private static long seed = 20261115L;

    public static void main(String[] args) {
        everyPowerOfTwo();
        nearPowersOfTen();
        ties();
        anyBits();
        Checks.end();
    }

    private static void everyPowerOfTwo() {
        for (int power = -1074; power <= 1023; power++) {
            checkDouble(Math.scalb(1.0, power));
            checkDouble(Math.nextDown(Math.scalb(1.0, power)));
            checkFloat(Math.scalb(1.0f, power));
            checkFloat(Math.nextUp(Math.scalb(1.0f, power)));
        }
    }

    private static void nearPowersOfTen() {
        for (int power = -324; power <= 308; power++) {
            double ten = Double.parseDouble("1e" + power);
            checkDouble(ten);
            checkDouble(Math.nextUp(ten));
            checkDouble(Math.nextDown(ten));
            checkDouble(ten * 9.5);
            checkDouble(ten * 9.9999995);
            checkFloat((float) ten);
            checkFloat(Math.nextDown((float) ten));
        }
    }

    /** Short binary fractions end in a 5, so that at some precision each is a half. */
    private static void ties() {
        for (int i = 1; i <= 2000; i++) {
            double tie = Math.scalb((double) i, -(i % 14));
            for (int kind = 0; kind <= 2; kind++) {
                for (int p = 0; p <= 14; p++) {
                    showDouble(kind, p, p % 2 == 0, p % 3 == 0, Double.doubleToRawLongBits(tie));
                    showFloat(kind, p, p % 2 == 0, p % 3 == 0, Float.floatToRawIntBits((float) -tie));
                }
            }
        }
    }

    private static void anyBits() {
        for (int i = 0; i < 4000; i++) {
            checkDouble(Double.longBitsToDouble(nextBits()));
            checkFloat(Float.intBitsToFloat((int) (nextBits() >>> 32)));
            // Most bits are far from 1; these are within what is fixed in the shorter notation.
            checkDouble(Math.scalb((double) (nextBits() >>> 11), (int) (nextBits() >>> 58) - 70));
        }
    }

    private static void checkDouble(double value) {
        for (int kind = 0; kind <= 2; kind++) {
            showDouble(kind, nextPrecision(), nextBits() < 0, nextBits() < 0, Double.doubleToRawLongBits(value));
        }
    }

    private static void checkFloat(float value) {
        for (int kind = 0; kind <= 2; kind++) {
            showFloat(kind, nextPrecision(), nextBits() < 0, nextBits() < 0, Float.floatToRawIntBits(value));
        }
    }

    private static void showDouble(int kind, int p, boolean groups, boolean point, long bits) {
        String due = due(kind, p, groups, point, Double.longBitsToDouble(bits));
        countCalls(due);
        Checks.show(x, kind, p, groups, point, bits, due);
    }

    private static void showFloat(int kind, int p, boolean groups, boolean point, int bits) {
        String due = due(kind, p, groups, point, Float.intBitsToFloat(bits));
        countCalls(due);
        Checks.showFloat(x, kind, p, groups, point, bits, due);
    }

    /** An object serves as many numbers as its calls allow, so that what one leaves behind would show. */
    private static void countCalls(String due) {
        int needed = due.length() / 8 + 3;
        if (calls + needed > MOST_CALLS) {
            x = new ExactNotation();
            calls = 0;
        }
        calls += needed;
    }

    private static String due(int kind, int p, boolean groups, boolean point, double value) {
        if (Double.isNaN(value)) {
            return "NaN";
        }
        if (Double.isInfinite(value)) {
            return "Infinity";
        }
        BigDecimal exact = new BigDecimal(value).abs();
        if (kind == 0) {
            return scientific(exact, p, point);
        }
        if (kind == 1) {
            return fixed(exact, p, groups, point);
        }
        int digits = p == 0 ? 1 : p;
        BigDecimal rounded = exact.round(new MathContext(digits, RoundingMode.HALF_UP));
        if (rounded.signum() == 0) {
            return fixed(exact, digits - 1, groups, false);
        }
        if (rounded.compareTo(new BigDecimal("0.0001")) >= 0 && rounded.compareTo(BigDecimal.TEN.pow(digits)) < 0) {
            int before = rounded.precision() - rounded.scale();
            return fixed(exact, digits - before, groups, false);
        }
        return scientific(exact, digits - 1, false);
    }

    private static String scientific(BigDecimal exact, int p, boolean point) {
        BigDecimal rounded = exact.round(new MathContext(p + 1, RoundingMode.HALF_UP));
        int exponent = exact.signum() == 0 ? 0 : rounded.precision() - rounded.scale() - 1;
        StringBuilder digits = new StringBuilder(rounded.unscaledValue().toString());
        while (digits.length() < p + 1) {
            digits.append('0');
        }
        digits.setLength(p + 1);
        if (p > 0 || point) {
            digits.insert(1, '.');
        }
        return digits + (exponent < 0 ? "e-" : "e+") + (Math.abs(exponent) < 10 ? "0" : "") + Math.abs(exponent);
    }

    private static String fixed(BigDecimal exact, int p, boolean groups, boolean point) {
        StringBuilder text = new StringBuilder(exact.setScale(p, RoundingMode.HALF_UP).toPlainString());
        int whole = p == 0 ? text.length() : text.indexOf(".");
        if (p == 0 && point) {
            text.append('.');
        }
        for (int i = whole - 3; groups && i > 0; i -= 3) {
            text.insert(i, ',');
        }
        return text.toString();
    }

    private static int nextPrecision() {
        return PRECISIONS[(int) Long.remainderUnsigned(nextBits(), PRECISIONS.length)];
    }

    /** The same numbers in every run (Marsaglia's xorshift). */
    private static long nextBits() {
        seed ^= seed << 13;
        seed ^= seed >>> 7;
        seed ^= seed << 17;
        return seed;
    }
}
