import java.math.BigDecimal;

/** Promise 3: its boundary cases at the ends of what floats reach. */
final class ShowFloatBoundaryTest {
    private static final float LEAST = Float.MIN_VALUE;
    private static final float GREATEST = Float.MAX_VALUE;
    private static final String GREATEST_DIGITS = "340282346638528859811704183484516925440";
    /** The 105 digits of 2^-149 that are left when its 44 zeros behind the point are gone. */
    private static final String LEAST_DIGITS = new BigDecimal(LEAST).unscaledValue().toString();

    public static void main(String[] args) {
        allDigitsOfTheGreatest();
        allDigitsOfTheLeast();
        halfAtTheLastDigitOfTheLeast();
        shorterBelowTenToTheP();
        longestResults();
        notAsADouble();
        Checks.end();
    }

    private static void allDigitsOfTheGreatest() {
        Checks.sentence("of a FLOAT: the exact value of the greatest");
        Checks.showFloat(1, 0, false, false, GREATEST, GREATEST_DIGITS);
        Checks.showFloat(1, 1200, false, false, -GREATEST, GREATEST_DIGITS + "." + "0".repeat(1200));
        Checks.showFloat(0, 38, false, false, GREATEST, "3." + GREATEST_DIGITS.substring(1) + "e+38");
        Checks.showFloat(0, 1200, false, false, GREATEST,
            "3." + GREATEST_DIGITS.substring(1) + "0".repeat(1162) + "e+38");
        Checks.showFloat(0, 0, false, false, GREATEST, "3e+38");
    }

    private static void allDigitsOfTheLeast() {
        Checks.sentence("of a FLOAT: the exact value of the least");
        String behind = "0".repeat(44) + LEAST_DIGITS;
        Checks.showFloat(1, 149, false, false, LEAST, "0." + behind);
        Checks.showFloat(1, 150, false, false, LEAST, "0." + behind + "0");
        Checks.showFloat(1, 1200, false, false, -LEAST, "0." + behind + "0".repeat(1051));
        Checks.showFloat(0, 104, false, false, LEAST, "1." + LEAST_DIGITS.substring(1) + "e-45");
        Checks.showFloat(2, 1200, false, false, LEAST,
            "1." + LEAST_DIGITS.substring(1) + "0".repeat(1095) + "e-45");
        Checks.showFloat(1, 44, false, false, LEAST, "0." + "0".repeat(44));
        Checks.showFloat(1, 45, false, false, LEAST, "0." + "0".repeat(44) + "1");
    }

    /** 2^-149 ends in ..25: one digit fewer is a half. */
    private static void halfAtTheLastDigitOfTheLeast() {
        Checks.sentence("of a FLOAT: halves up at the last digit of the least");
        String up = LEAST_DIGITS.substring(0, 103) + "3";
        Checks.showFloat(1, 148, false, false, LEAST, "0." + "0".repeat(44) + up);
        Checks.showFloat(0, 103, false, false, LEAST, "1." + up.substring(1) + "e-45");
        Checks.showFloat(2, 104, false, false, -LEAST, "1." + up.substring(1) + "e-45");
    }

    private static void shorterBelowTenToTheP() {
        Checks.sentence("of a FLOAT: below 10^p, of the greatest");
        Checks.showFloat(2, 39, false, false, GREATEST, GREATEST_DIGITS);
        Checks.showFloat(2, 40, false, false, GREATEST, GREATEST_DIGITS + ".0");
        Checks.showFloat(2, 38, false, false, GREATEST, "3." + GREATEST_DIGITS.substring(1, 38) + "e+38");
        Checks.showFloat(2, 1200, false, false, GREATEST, GREATEST_DIGITS + "." + "0".repeat(1161));
    }

    private static void longestResults() {
        Checks.sentence("of a FLOAT: how many bytes, the longest");
        String grouped = "340,282,346,638,528,859,811,704,183,484,516,925,440";
        Checks.showFloat(1, 0, true, false, GREATEST, grouped);
        Checks.showFloat(1, 1200, true, true, GREATEST, grouped + "." + "0".repeat(1200));
        Checks.showFloat(2, 1200, true, true, GREATEST, grouped + "." + "0".repeat(1161));
    }

    /** The float that is nearest to a decimal fraction is another number than the double that is. */
    private static void notAsADouble() {
        Checks.sentence("of a FLOAT: not of the double beside it");
        Checks.showFloat(1, 10, false, false, 0.1f, "0.1000000015");
        Checks.show(1, 10, false, false, 0.1, "0.1000000000");
        Checks.showFloat(0, 12, false, false, 16777217f, "1.677721600000e+07");
        Checks.showFloat(2, 12, false, false, 0.7f, "0.699999988079");
    }
}
