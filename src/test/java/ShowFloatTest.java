/** Promise 3: showFloat, by written-out answers. */
final class ShowFloatTest {
    public static void main(String[] args) {
        ordinary();
        ends();
        infinityAndNaN();
        outOfRange();
        refusedCallChangesNothing();
        Checks.end();
    }

    private static void ordinary() {
        Checks.showFloat(0, 0, true, true, 1.0f, "1.e+00");
        Checks.showFloat(0, 20, false, false, 0.1f, "1.00000001490116119385e-01");
        Checks.showFloat(1, 30, false, false, 0.1f, "0.100000001490116119384765625000");
        Checks.showFloat(1, 0, false, false, 0.5f, "1");
        Checks.showFloat(1, 0, false, false, Math.nextDown(0.5f), "0");
        Checks.showFloat(1, 0, false, false, -2.5f, "3");
        Checks.showFloat(1, 1, true, false, 16777216f, "16,777,216.0");
        Checks.showFloat(2, 25, true, true, 10.0f, "10." + "0".repeat(23));
        Checks.showFloat(2, 3, false, false, 999.5f, "1.00e+03");
        Checks.showFloat(2, 6, true, false, 123456.0f, "123,456");
        Checks.showFloat(2, 0, true, true, 0.0f, "0");
        Checks.showFloat(0, 3, true, true, -0.0f, "0.000e+00");
        Checks.showFloat(1, 2, true, true, -0.0f, "0.00");
    }

    private static void ends() {
        Checks.showFloat(2, 10, true, true, Float.MIN_VALUE, "1.401298464e-45");
        Checks.showFloat(2, 10, true, true, -Float.MIN_VALUE, "1.401298464e-45");
        Checks.showFloat(0, 9, false, false, Float.MIN_NORMAL, "1.175494351e-38");
        Checks.showFloat(0, 9, false, false, Math.nextDown(Float.MIN_NORMAL), "1.175494211e-38");
        Checks.showFloat(1, 0, false, false, Float.MAX_VALUE, "340282346638528859811704183484516925440");
        Checks.showFloat(1, 5, true, true, Float.MAX_VALUE,
            "340,282,346,638,528,859,811,704,183,484,516,925,440.00000");
        Checks.showFloat(1, 1200, false, false, 0.25f, "0.25" + "0".repeat(1198));
    }

    private static void infinityAndNaN() {
        for (int kind = 0; kind <= 2; kind++) {
            Checks.showFloat(kind, 0, true, true, Float.POSITIVE_INFINITY, "Infinity");
            Checks.showFloat(kind, 0, true, true, Float.NEGATIVE_INFINITY, "Infinity");
            Checks.showFloat(kind, 15, true, true, Float.NaN, "NaN");
            Checks.showFloat(new ExactNotation(), kind, 0, true, true, -1, "NaN");
            Checks.showFloat(new ExactNotation(), kind, 0, true, true, 0x7F800001, "NaN");
            Checks.showFloat(new ExactNotation(), kind, 0, true, true, 0xFF800001, "NaN");
        }
    }

    private static void outOfRange() {
        int[] all = {0, Float.floatToRawIntBits(1.5f), Float.floatToRawIntBits(Float.NaN), -1};
        for (int bits : all) {
            Checks.refusesShowFloat(new ExactNotation(), -1, 0, bits);
            Checks.refusesShowFloat(new ExactNotation(), 3, 0, bits);
            for (int kind = 0; kind <= 2; kind++) {
                Checks.refusesShowFloat(new ExactNotation(), kind, -1, bits);
                Checks.refusesShowFloat(new ExactNotation(), kind, 1201, bits);
                Checks.refusesShowFloat(new ExactNotation(), kind, Integer.MIN_VALUE, bits);
                Checks.refusesShowFloat(new ExactNotation(), kind, Integer.MAX_VALUE, bits);
            }
        }
    }

    private static void refusedCallChangesNothing() {
        ExactNotation x = new ExactNotation();
        int length = x.showFloat(0, 1, false, false, Float.floatToRawIntBits(2.5f));
        Checks.refusesShowFloat(x, -1, 0, 0);
        Checks.refusesShowFloat(x, 0, -1, 0);
        Checks.result("after refused calls", x, length, "2.5e+00");
    }
}
