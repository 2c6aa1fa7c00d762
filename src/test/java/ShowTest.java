/** Promise 2: show, by written-out answers. */
final class ShowTest {
    private static final double LEAST = Double.MIN_VALUE;
    private static final double GREATEST = Double.MAX_VALUE;

    public static void main(String[] args) {
        scientific();
        fixed();
        shorterAsFixed();
        shorterAsScientific();
        groups();
        point();
        withoutSign();
        infinityAndNaN();
        greatestPrecision();
        outOfRange();
        refusedCallChangesNothing();
        laterCallsForgetEarlierOnes();
        Checks.end();
    }

    private static void scientific() {
        Checks.show(0, 6, false, false, 0.0, "0.000000e+00");
        Checks.show(0, 0, false, false, 0.0, "0e+00");
        Checks.show(0, 0, false, false, 1.0, "1e+00");
        Checks.show(0, 3, false, false, 1234567.0, "1.235e+06");
        Checks.show(0, 2, false, false, 0.001, "1.00e-03");
        Checks.show(0, 0, false, false, 9.5, "1e+01");
        Checks.show(0, 0, false, false, 8.5, "9e+00");
        Checks.show(0, 0, false, false, Math.nextDown(9.5), "9e+00");
        Checks.show(0, 1, false, false, 1.25, "1.3e+00");
        Checks.show(0, 1, false, false, 1.75, "1.8e+00");
        Checks.show(0, 2, false, false, 0.99951171875, "1.00e+00");
        Checks.show(0, 1, false, false, 1e99, "1.0e+99");
        Checks.show(0, 1, false, false, 1e100, "1.0e+100");
        Checks.show(0, 1, false, false, 1e-99, "1.0e-99");
        Checks.show(0, 1, false, false, 1e-100, "1.0e-100");
        Checks.show(0, 2, false, false, LEAST, "4.94e-324");
        Checks.show(0, 0, false, false, GREATEST, "2e+308");
        Checks.show(0, 20, false, false, 0.1, "1.00000000000000005551e-01");
    }

    private static void fixed() {
        Checks.show(1, 0, false, false, 0.0, "0");
        Checks.show(1, 3, false, false, 0.0, "0.000");
        Checks.show(1, 0, false, false, 0.5, "1");
        Checks.show(1, 0, false, false, 1.5, "2");
        Checks.show(1, 0, false, false, 2.5, "3");
        Checks.show(1, 0, false, false, Math.nextDown(0.5), "0");
        Checks.show(1, 1, false, false, 0.25, "0.3");
        Checks.show(1, 1, false, false, 0.05, "0.1");
        Checks.show(1, 2, false, false, 1.005, "1.00");
        Checks.show(1, 2, false, false, 0.004, "0.00");
        Checks.show(1, 2, false, false, 9.999, "10.00");
        Checks.show(1, 0, false, false, 999999999.5, "1000000000");
        Checks.show(1, 0, false, false, 999999999999999.5, "1000000000000000");
        Checks.show(1, 9, false, false, 0x1p-10, "0.000976563");
        Checks.show(1, 10, false, false, 0x1p-10, "0.0009765625");
        Checks.show(1, 11, false, false, 0x1p-10, "0.00097656250");
        Checks.show(1, 3, false, false, 1e22, "10000000000000000000000.000");
        Checks.show(1, 0, false, false, 0x1p64, "18446744073709551616");
        Checks.show(1, 40, false, false, LEAST, "0." + "0".repeat(40));
    }

    private static void shorterAsFixed() {
        Checks.show(2, 6, false, false, 0.0, "0.00000");
        Checks.show(2, 1, false, false, 0.0, "0");
        Checks.show(2, 0, false, false, 0.0, "0");
        Checks.show(2, 0, false, false, 5.0, "5");
        Checks.show(2, 1, false, false, 5.0, "5");
        Checks.show(2, 1, false, false, 0.96875, "1");
        Checks.show(2, 3, false, false, 999.0, "999");
        Checks.show(2, 3, false, false, 0.5, "0.500");
        Checks.show(2, 3, false, false, 99.96875, "100");
        Checks.show(2, 5, false, false, 99.99975, "100.00");
        Checks.show(2, 6, false, false, 1e-4, "0.000100000");
        Checks.show(2, 6, false, false, 9.999995e-5, "0.000100000");
        Checks.show(2, 1, false, false, 1e-4, "0.0001");
        Checks.show(2, 0, false, false, 9.6e-5, "0.0001");
        Checks.show(2, 17, false, false, 0.1, "0.10000000000000001");
        Checks.show(2, 23, false, false, 1e22, "1" + "0".repeat(22));
    }

    private static void shorterAsScientific() {
        Checks.show(2, 3, false, false, 999.5, "1.00e+03");
        Checks.show(2, 3, false, false, 1000.0, "1.00e+03");
        Checks.show(2, 1, false, false, 9.5, "1e+01");
        Checks.show(2, 0, false, false, 10.0, "1e+01");
        Checks.show(2, 0, false, false, 1e-5, "1e-05");
        Checks.show(2, 6, false, false, 9.99999e-5, "9.99999e-05");
        Checks.show(2, 6, false, false, 9.9999949e-5, "9.99999e-05");
        Checks.show(2, 4, false, false, LEAST, "4.941e-324");
        Checks.show(2, 22, false, false, 1e22, "1." + "0".repeat(21) + "e+22");
    }

    private static void groups() {
        Checks.show(1, 0, true, false, 999.0, "999");
        Checks.show(1, 0, true, false, 1000.0, "1,000");
        Checks.show(1, 2, true, false, 999.995, "1,000.00");
        Checks.show(1, 4, true, false, 123456.125, "123,456.1250");
        Checks.show(1, 6, true, false, 0.123456, "0.123456");
        Checks.show(1, 0, true, false, 1e9, "1,000,000,000");
        Checks.show(2, 12, true, false, 1234567.8915, "1,234,567.89150");
        Checks.show(2, 12, false, false, 1234567.8915, "1234567.89150");
        Checks.show(2, 6, true, false, 1234567.0, "1.23457e+06");
        Checks.show(0, 6, true, false, 1234567.0, "1.234567e+06");
        Checks.show(2, 8, true, false, 1e-4, "0.00010000000");
    }

    private static void point() {
        Checks.show(0, 0, false, true, 0.0, "0.e+00");
        Checks.show(0, 0, false, true, 9.5, "1.e+01");
        Checks.show(0, 1, false, true, 9.5, "9.5e+00");
        Checks.show(1, 0, false, true, 0.0, "0.");
        Checks.show(1, 0, true, true, 1234.0, "1,234.");
        Checks.show(1, 1, false, true, 1234.0, "1234.0");
        Checks.show(2, 0, false, true, 0.0, "0");
        Checks.show(2, 0, false, true, 7.0, "7");
        Checks.show(2, 4, true, true, 1234.0, "1,234");
        Checks.show(2, 0, false, true, 1e-5, "1e-05");
    }

    private static void withoutSign() {
        Checks.show(0, 2, false, false, -0.0, "0.00e+00");
        Checks.show(1, 0, false, false, -0.5, "1");
        Checks.show(1, 0, false, false, -2.5, "3");
        Checks.show(1, 1, false, false, -0.4, "0.4");
        Checks.show(2, 3, false, false, -1234.0, "1.23e+03");
        Checks.show(0, 0, false, false, -LEAST, "5e-324");
    }

    private static void infinityAndNaN() {
        for (int kind = 0; kind <= 2; kind++) {
            for (int p = 0; p <= 1200; p += 600) {
                Checks.show(kind, p, true, true, Double.POSITIVE_INFINITY, "Infinity");
                Checks.show(kind, p, true, true, Double.NEGATIVE_INFINITY, "Infinity");
                Checks.show(kind, p, true, true, Double.NaN, "NaN");
                Checks.show(new ExactNotation(), kind, p, true, true, -1L, "NaN");
                Checks.show(new ExactNotation(), kind, p, true, true, 0x7FF0000000000001L, "NaN");
            }
        }
    }

    private static void greatestPrecision() {
        Checks.show(1, 1200, false, false, 0.5, "0.5" + "0".repeat(1199));
        Checks.show(0, 1200, false, false, 0.5, "5." + "0".repeat(1200) + "e-01");
        Checks.show(2, 1200, false, false, 0.5, "0.5" + "0".repeat(1199));
        Checks.show(2, 1200, false, false, 0x1p-13, "0.0001220703125" + "0".repeat(1190));
        Checks.show(2, 1200, false, false, 0x1p-14, "6.103515625" + "0".repeat(1190) + "e-05");
        ExactNotation x = new ExactNotation();
        long bits = Double.doubleToRawLongBits(GREATEST);
        Checks.same("the longest result", x.show(1, 1200, true, true, bits), 1612);
        Checks.same("the end of the longest", x.word(1604), 0x3030303030303030L);
        Checks.same("the point of the longest", x.word(411) >>> 56, '.');
        Checks.refusesWord("behind the longest", x, 1612);
    }

    private static void outOfRange() {
        long[] all = {0L, Double.doubleToRawLongBits(1.5), Double.doubleToRawLongBits(Double.NaN), -1L};
        for (long bits : all) {
            Checks.refusesShow(new ExactNotation(), -1, 0, bits);
            Checks.refusesShow(new ExactNotation(), 3, 0, bits);
            Checks.refusesShow(new ExactNotation(), Integer.MIN_VALUE, 0, bits);
            Checks.refusesShow(new ExactNotation(), Integer.MAX_VALUE, 0, bits);
            for (int kind = 0; kind <= 2; kind++) {
                Checks.refusesShow(new ExactNotation(), kind, -1, bits);
                Checks.refusesShow(new ExactNotation(), kind, 1201, bits);
                Checks.refusesShow(new ExactNotation(), kind, Integer.MIN_VALUE, bits);
                Checks.refusesShow(new ExactNotation(), kind, Integer.MAX_VALUE, bits);
            }
        }
    }

    private static void refusedCallChangesNothing() {
        ExactNotation x = new ExactNotation();
        int length = x.show(1, 3, false, false, Double.doubleToRawLongBits(2.125));
        Checks.refusesShow(x, 3, 0, 0L);
        Checks.refusesShow(x, 0, 1201, 0L);
        Checks.refusesWord("refused word", x, -1);
        Checks.result("after refused calls", x, length, "2.125");
    }

    private static void laterCallsForgetEarlierOnes() {
        ExactNotation x = new ExactNotation();
        x.show(1, 60, false, false, Double.doubleToRawLongBits(0.1));
        Checks.show(x, 1, 60, false, false, Double.doubleToRawLongBits(0.25), "0.25" + "0".repeat(58));
        x.showFloat(1, 60, false, false, Float.floatToRawIntBits(0.7f));
        Checks.showFloat(x, 0, 60, false, false, Float.floatToRawIntBits(0.25f), "2.5" + "0".repeat(59) + "e-01");
        x.show(1, 1200, true, true, Double.doubleToRawLongBits(GREATEST));
        x.show(1, 1200, true, true, Double.doubleToRawLongBits(Math.nextDown(Double.MIN_NORMAL)));
        Checks.show(x, 1, 20, true, true, Double.doubleToRawLongBits(3.0), "3." + "0".repeat(20));
        Checks.show(x, 1, 0, true, true, Double.doubleToRawLongBits(0.0), "0.");
        Checks.show(x, 0, 2, true, true, Double.doubleToRawLongBits(Double.NaN), "NaN");
        Checks.show(x, 0, 2, true, true, 0L, "0.00e+00");
    }
}
