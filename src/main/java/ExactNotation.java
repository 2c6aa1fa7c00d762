import java.util.Arrays;

/** Binary floating point in decimal notation: the exact value, rounded once, halves up. */
public final class ExactNotation {
    private static final int SCIENTIFIC = 0;
    private static final int FIXED = 1;
    private static final int SHORTER = 2;

    private static final int MOST_DIGITS = 1200;

    /** The least power of ten that the shorter notation still writes as fixed. */
    private static final int LEAST_FIXED_POWER = -4;

    private final Decimal value;
    private final Text result;

    public ExactNotation() {
        value = new Decimal();
        result = new Text();
    }

    public int show(int kind, int p, boolean groups, boolean point, long bits) throws IllegalArgumentException {
        refuseOutOfRange(kind, p);
        return present(kind, p, groups, point, bits, Format.DOUBLE);
    }

    public int showFloat(int kind, int p, boolean groups, boolean point, int bits) throws IllegalArgumentException {
        refuseOutOfRange(kind, p);
        return present(kind, p, groups, point, bits, Format.FLOAT);
    }

    public long word(int i) throws IndexOutOfBoundsException {
        if (i < 0 || i >= result.length()) {
            throw new IndexOutOfBoundsException("not a byte of the result");
        }
        return result.eightFrom(i);
    }

    private static void refuseOutOfRange(int kind, int p) {
        if (kind < SCIENTIFIC || kind > SHORTER) {
            throw new IllegalArgumentException("kind is not 0 to 2");
        }
        if (p < 0 || p > MOST_DIGITS) {
            throw new IllegalArgumentException("p is not 0 to 1200");
        }
    }

    private int present(int kind, int p, boolean groups, boolean point, long bits, Format format) {
        result.clear();
        if (!format.isFinite(bits)) {
            result.addAll(format.isInfinity(bits) ? "Infinity" : "NaN");
            return result.length();
        }
        value.assign(format.coefficient(bits), format.power(bits));
        if (kind == SCIENTIFIC) {
            value.roundAt(value.leadingPlace() - p);
            writeScientific(p, point);
        } else if (kind == FIXED) {
            value.roundAt(-p);
            writeFixed(p, groups, point);
        } else {
            writeShorter(Math.max(p, 1), groups);
        }
        return result.length();
    }

    /**
     * Rounding that carries into a new leading digit leaves only zeros behind it, so that dropping
     * one of them is the same as rounding the exact value to one place fewer.
     */
    private void writeShorter(int digits, boolean groups) {
        value.roundAt(value.leadingPlace() - digits + 1);
        int leading = value.leadingPlace();
        if (leading >= LEAST_FIXED_POWER && leading < digits) {
            writeFixed(digits - 1 - leading, groups, false);
        } else {
            writeScientific(digits - 1, false);
        }
    }

    private void writeFixed(int behind, boolean groups, boolean point) {
        for (int place = Math.max(value.leadingPlace(), 0); place >= 0; place--) {
            writeDigit(value.digitAt(place));
            if (groups && place > 0 && place % 3 == 0) {
                result.add(',');
            }
        }
        writeBehindPoint(-1, behind, point);
    }

    private void writeScientific(int behind, boolean point) {
        int leading = value.leadingPlace();
        writeDigit(value.digitAt(leading));
        writeBehindPoint(leading - 1, behind, point);
        writeExponent(leading);
    }

    private void writeBehindPoint(int firstPlace, int count, boolean point) {
        if (count > 0 || point) {
            result.add('.');
        }
        for (int i = 0; i < count; i++) {
            writeDigit(value.digitAt(firstPlace - i));
        }
    }

    private void writeExponent(int exponent) {
        int size = Math.abs(exponent);
        result.add('e');
        result.add(exponent < 0 ? '-' : '+');
        if (size >= 100) {
            writeDigit(size / 100);
        }
        writeDigit(size / 10 % 10);
        writeDigit(size % 10);
    }

    private void writeDigit(int digit) {
        result.add((char) ('0' + digit));
    }

    /** How IEEE 754 lays out a number: the sign is never looked at, as no notation shows it. */
    private enum Format {
        DOUBLE(52, 0x7FF, -1074),
        FLOAT(23, 0xFF, -149);

        private final int fractionBits;
        private final int exponentOnes;
        private final int leastPower;

        Format(int fractionBits, int exponentOnes, int leastPower) {
            this.fractionBits = fractionBits;
            this.exponentOnes = exponentOnes;
            this.leastPower = leastPower;
        }

        boolean isFinite(long bits) {
            return exponent(bits) != exponentOnes;
        }

        boolean isInfinity(long bits) {
            return !isFinite(bits) && fraction(bits) == 0;
        }

        long coefficient(long bits) {
            long hidden = exponent(bits) == 0 ? 0 : 1L << fractionBits;
            return hidden | fraction(bits);
        }

        int power(long bits) {
            return leastPower + Math.max(exponent(bits) - 1, 0);
        }

        private int exponent(long bits) {
            return (int) (bits >>> fractionBits) & exponentOnes;
        }

        private long fraction(long bits) {
            return bits & ((1L << fractionBits) - 1);
        }
    }

    /**
     * A number of at least 0 with all its decimal digits, nine to a limb, the highest limb first.
     * Places are powers of ten: 0 is that of the ones, -1 the first behind the point.
     */
    private static final class Decimal {
        private static final int DIGITS_PER_LIMB = 9;
        private static final int LIMB_BASE = 1000000000;
        private static final int[] TEN_TO = {
            1, 10, 100, 1000, 10000, 100000, 1000000, 10000000, 100000000
        };

        /** 35 limbs hold the 309 digits of the greatest double, 120 the 1074 behind the point of the least. */
        private static final int WHOLE_LIMBS = 35;
        private static final int FRACTION_LIMBS = 120;
        private static final int ONES = WHOLE_LIMBS - 1;

        /** So that what is carried over stays below a limb's base. */
        private static final int MOST_BITS_UP = 29;

        /** A limb more takes up nine bits of a remainder, as its base is a multiple of 2^9. */
        private static final int BITS_PER_LIMB_DOWN = 9;
        private static final int MOST_BITS_DOWN = 3 * BITS_PER_LIMB_DOWN;

        private final int[] limbs;

        /** All limbs outside first .. last are 0. */
        private int first;
        private int last;

        Decimal() {
            limbs = new int[WHOLE_LIMBS + FRACTION_LIMBS];
            first = ONES;
            last = ONES;
        }

        /** Makes this coefficient * 2^power, exactly. */
        void assign(long coefficient, int power) {
            assignWhole(coefficient);
            if (coefficient != 0) {
                scaleByPowerOfTwo(power);
            }
        }

        private void scaleByPowerOfTwo(int power) {
            for (int left = power; left > 0; left -= MOST_BITS_UP) {
                multiplyByPowerOfTwo(Math.min(left, MOST_BITS_UP));
            }
            for (int left = -power; left > 0; left -= MOST_BITS_DOWN) {
                divideByPowerOfTwo(Math.min(left, MOST_BITS_DOWN));
            }
        }

        private void assignWhole(long whole) {
            Arrays.fill(limbs, 0);
            limbs[ONES] = (int) (whole % LIMB_BASE);
            limbs[ONES - 1] = (int) (whole / LIMB_BASE);
            first = ONES - 1;
            last = ONES;
        }

        private void multiplyByPowerOfTwo(int bits) {
            long carry = 0;
            for (int i = last; i >= first; i--) {
                long product = ((long) limbs[i] << bits) + carry;
                carry = product / LIMB_BASE;
                limbs[i] = (int) (product - carry * LIMB_BASE);
            }
            if (carry != 0 && first > 0) {
                first--;
                limbs[first] = (int) carry;
            }
        }

        private void divideByPowerOfTwo(int bits) {
            int limbsMore = (bits + BITS_PER_LIMB_DOWN - 1) / BITS_PER_LIMB_DOWN;
            last = Math.min(last + limbsMore, limbs.length - 1);
            long mask = (1L << bits) - 1;
            long rest = 0;
            for (int i = first; i <= last; i++) {
                long dividend = rest * LIMB_BASE + limbs[i];
                limbs[i] = (int) (dividend >>> bits);
                rest = dividend & mask;
            }
            if (limbs[first] == 0 && first < last) {
                first++;
            }
        }

        /** The place of the highest digit that is not 0; of 0 the place of the ones. */
        int leadingPlace() {
            for (int i = first; i <= last; i++) {
                for (int within = DIGITS_PER_LIMB - 1; within >= 0; within--) {
                    if (limbs[i] >= TEN_TO[within]) {
                        return (ONES - i) * DIGITS_PER_LIMB + within;
                    }
                }
            }
            return 0;
        }

        int digitAt(int place) {
            int i = limbOf(place);
            if (i < first || i > last) {
                return 0;
            }
            return limbs[i] / TEN_TO[placeInLimb(place)] % 10;
        }

        /**
         * Rounds to a multiple of 10^place, halves up. The digits below that place stay as they are:
         * nobody reads them afterwards.
         */
        void roundAt(int place) {
            // All digits are here, so that one alone tells whether half is reached.
            if (digitAt(place - 1) >= 5) {
                addOneAt(place);
            }
        }

        private void addOneAt(int place) {
            int more = TEN_TO[placeInLimb(place)];
            for (int i = limbOf(place); i >= 0 && i < limbs.length && more > 0; i--) {
                int sum = limbs[i] + more;
                boolean carries = sum >= LIMB_BASE;
                limbs[i] = carries ? sum - LIMB_BASE : sum;
                more = carries ? 1 : 0;
                first = Math.min(first, i);
            }
        }

        private static int limbOf(int place) {
            return ONES - Math.floorDiv(place, DIGITS_PER_LIMB);
        }

        private static int placeInLimb(int place) {
            return Math.floorMod(place, DIGITS_PER_LIMB);
        }
    }

    /** The bytes of the result, in one row that is used again for every call. */
    private static final class Text {
        /** The longest: 309 digits with 102 commas, the point, 1200 digits. */
        private static final int MOST_BYTES = 309 + 102 + 1 + MOST_DIGITS;

        private final byte[] bytes;
        private int length;

        Text() {
            bytes = new byte[MOST_BYTES];
            length = 0;
        }

        int length() {
            return length;
        }

        void clear() {
            length = 0;
        }

        void add(char c) {
            if (length < bytes.length) {
                bytes[length] = (byte) c;
                length++;
            }
        }

        void addAll(String text) {
            for (int i = 0; i < text.length(); i++) {
                add(text.charAt(i));
            }
        }

        /** Eight bytes from start on, the highest first, zeros behind the end. */
        long eightFrom(int start) {
            long eight = 0;
            for (int i = start; i < start + 8; i++) {
                int next = i >= 0 && i < length ? bytes[i] : 0;
                eight = eight << 8 | next;
            }
            return eight;
        }
    }
}
