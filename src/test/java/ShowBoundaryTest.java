import java.math.BigDecimal;

/** Promise 2: its boundary cases where doubles reach farther than floats. */
final class ShowBoundaryTest {
    private static final double LEAST = Double.MIN_VALUE;
    private static final double GREATEST = Double.MAX_VALUE;
    private static final String GREATEST_DIGITS = new BigDecimal(GREATEST).toPlainString();
    /** The 751 digits of 2^-1074 that are left when its 323 zeros behind the point are gone. */
    private static final String LEAST_DIGITS = new BigDecimal(LEAST).unscaledValue().toString();

    public static void main(String[] args) {
        allDigitsOfTheGreatest();
        allDigitsOfTheLeast();
        halfAtTheLastDigitOfTheLeast();
        exponentsOfThreeDigits();
        carryIntoAnExponentOfThreeDigits();
        carryOverManyNines();
        shorterBelowTenToTheP();
        halfOfALargeNumber();
        longestResults();
        Checks.end();
    }

    private static void allDigitsOfTheGreatest() {
        Checks.sentence("the exact value: of the greatest");
        Checks.show(1, 0, false, false, GREATEST, GREATEST_DIGITS);
        Checks.show(1, 1200, false, false, -GREATEST, GREATEST_DIGITS + "." + "0".repeat(1200));
        String behind = GREATEST_DIGITS.substring(1);
        Checks.show(0, 308, false, false, GREATEST, "1." + behind + "e+308");
        Checks.show(0, 1200, false, false, GREATEST, "1." + behind + "0".repeat(892) + "e+308");
        Checks.show(0, 0, false, false, GREATEST, "2e+308");
        Checks.show(0, 1, false, false, GREATEST, "1.8e+308");
    }

    private static void allDigitsOfTheLeast() {
        Checks.sentence("the exact value: of the least");
        String behind = "0".repeat(323) + LEAST_DIGITS;
        Checks.show(1, 1074, false, false, LEAST, "0." + behind);
        Checks.show(1, 1075, false, false, LEAST, "0." + behind + "0");
        Checks.show(1, 1200, false, false, -LEAST, "0." + behind + "0".repeat(126));
        String behindFirst = LEAST_DIGITS.substring(1);
        Checks.show(0, 750, false, false, LEAST, "4." + behindFirst + "e-324");
        Checks.show(0, 751, false, false, LEAST, "4." + behindFirst + "0e-324");
        Checks.show(2, 751, false, false, LEAST, "4." + behindFirst + "e-324");
        Checks.show(2, 1200, false, false, LEAST, "4." + behindFirst + "0".repeat(449) + "e-324");
        Checks.show(1, 322, false, false, LEAST, "0." + "0".repeat(322));
        Checks.show(1, 323, false, false, LEAST, "0." + "0".repeat(323));
        Checks.show(1, 324, false, false, LEAST, "0." + "0".repeat(323) + "5");
    }

    /** 2^-1074 ends in ..25: one digit fewer is a half. */
    private static void halfAtTheLastDigitOfTheLeast() {
        Checks.sentence("halves up: at the last digit of the least");
        String up = LEAST_DIGITS.substring(0, 749) + "3";
        Checks.show(1, 1073, false, false, LEAST, "0." + "0".repeat(323) + up);
        Checks.show(0, 749, false, false, LEAST, "4." + up.substring(1) + "e-324");
        Checks.show(2, 750, false, false, -LEAST, "4." + up.substring(1) + "e-324");
    }

    private static void exponentsOfThreeDigits() {
        Checks.sentence("two digits at least: 99, 100");
        Checks.show(0, 1, false, false, 1e99, "1.0e+99");
        Checks.show(0, 1, false, false, 1e100, "1.0e+100");
        Checks.show(0, 1, false, false, 1e101, "1.0e+101");
        Checks.show(0, 1, false, false, 1e-99, "1.0e-99");
        Checks.show(0, 1, false, false, 1e-100, "1.0e-100");
        Checks.show(0, 1, false, false, 1e-101, "1.0e-101");
        Checks.show(2, 1, false, false, 1e200, "1e+200");
        Checks.show(2, 1, false, false, 1e-210, "1e-210");
    }

    private static void carryIntoAnExponentOfThreeDigits() {
        Checks.sentence("two digits at least: rounding carries to 100 or to 99");
        Checks.show(0, 0, false, false, 9.6e99, "1e+100");
        Checks.show(0, 0, false, false, 9.4e99, "9e+99");
        Checks.show(0, 0, false, false, 9.6e-100, "1e-99");
        Checks.show(0, 0, false, false, 9.4e-100, "9e-100");
        Checks.show(0, 0, false, false, 9.6e-11, "1e-10");
        Checks.show(0, 0, false, false, 9.6e-10, "1e-09");
        Checks.show(2, 2, false, false, 9.96e99, "1.0e+100");
    }

    private static void carryOverManyNines() {
        Checks.sentence("rounding carries through all digits");
        Checks.show(1, 0, false, false, 999999999.5, "1000000000");
        Checks.show(1, 0, false, false, 999999999999999.5, "1000000000000000");
        Checks.show(1, 0, true, false, 999999999999999.5, "1,000,000,000,000,000");
        Checks.show(0, 14, false, false, 999999999999999.5, "1.00000000000000e+15");
        Checks.show(0, 15, false, false, 999999999999999.5, "9.999999999999995e+14");
        Checks.show(2, 15, false, false, 999999999999999.5, "1.00000000000000e+15");
        Checks.show(2, 16, false, false, 999999999999999.5, "999999999999999.5");
        Checks.show(1, 15, false, false, Math.nextDown(1.0), "1.000000000000000");
        Checks.show(1, 16, false, false, Math.nextDown(1.0), "0.9999999999999999");
    }

    private static void shorterBelowTenToTheP() {
        Checks.sentence("below 10^p: of the greatest");
        Checks.show(2, 309, false, false, GREATEST, GREATEST_DIGITS);
        Checks.show(2, 310, false, false, GREATEST, GREATEST_DIGITS + ".0");
        Checks.show(2, 1200, false, false, GREATEST, GREATEST_DIGITS + "." + "0".repeat(891));
        String behind = GREATEST_DIGITS.substring(1, 307);
        // The greatest ends in ..68, so that one digit fewer is rounded up.
        Checks.show(2, 308, false, false, GREATEST, "1." + behind + "7e+308");
        Checks.show(2, 22, false, false, 1e22, "1." + "0".repeat(21) + "e+22");
        Checks.show(2, 23, false, false, 1e22, "1" + "0".repeat(22));
    }

    /** Where a digit before the point is the one that is rounded. */
    private static void halfOfALargeNumber() {
        Checks.sentence("halves up: before the point");
        Checks.show(0, 14, false, false, 1234567890123465.0, "1.23456789012347e+15");
        Checks.show(0, 14, false, false, 1234567890123475.0, "1.23456789012348e+15");
        Checks.show(2, 15, false, false, 1234567890123465.0, "1.23456789012347e+15");
        Checks.show(0, 0, false, false, 25000000000.0, "3e+10");
        Checks.show(0, 0, false, false, 24999999999.0, "2e+10");
    }

    private static void longestResults() {
        Checks.sentence("Answers how many bytes: the longest");
        StringBuilder grouped = new StringBuilder(GREATEST_DIGITS);
        for (int i = 306; i > 0; i -= 3) {
            grouped.insert(i, ',');
        }
        Checks.show(1, 0, true, false, GREATEST, grouped.toString());
        Checks.show(1, 0, true, true, GREATEST, grouped + ".");
        Checks.show(1, 1200, true, true, GREATEST, grouped + "." + "0".repeat(1200));
        Checks.show(2, 1200, true, true, GREATEST, grouped + "." + "0".repeat(891));
    }
}
