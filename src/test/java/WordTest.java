/** Promise 4: word. */
final class WordTest {
    public static void main(String[] args) {
        everyPlaceOfAResult();
        oneByte();
        aWordJustFilled();
        afterAShorterResult();
        Checks.end();
    }

    private static void everyPlaceOfAResult() {
        ExactNotation x = new ExactNotation();
        String text = "1,234,567.891";
        Checks.same("length", x.show(1, 3, true, false, Double.doubleToRawLongBits(1234567.8915)), text.length());
        for (int i = 0; i < text.length(); i++) {
            Checks.same("word(" + i + ")", x.word(i), wordOf(text, i));
        }
        int[] none = {-1, -8, text.length(), text.length() + 1, 16, 40000, Integer.MAX_VALUE, Integer.MIN_VALUE};
        for (int i : none) {
            Checks.refusesWord("word", x, i);
        }
        Checks.same("word(5) after refused ones", x.word(5), wordOf(text, 5));
    }

    private static void oneByte() {
        ExactNotation x = new ExactNotation();
        x.show(1, 0, false, false, Double.doubleToRawLongBits(7.0));
        Checks.same("one byte", x.word(0), 0x3700000000000000L);
        Checks.refusesWord("behind one byte", x, 1);
    }

    private static void aWordJustFilled() {
        ExactNotation x = new ExactNotation();
        x.show(1, 0, false, false, Double.doubleToRawLongBits(12345678.0));
        Checks.same("eight bytes", x.word(0), 0x3132333435363738L);
        Checks.same("the last of eight bytes", x.word(7), 0x3800000000000000L);
        Checks.refusesWord("behind eight bytes", x, 8);
    }

    private static void afterAShorterResult() {
        ExactNotation x = new ExactNotation();
        x.show(0, 40, false, false, Double.doubleToRawLongBits(0.1));
        x.showFloat(0, 0, false, false, Float.floatToRawIntBits(Float.NaN));
        Checks.same("nothing of the longer one", x.word(0), 0x4E614E0000000000L);
        Checks.refusesWord("where the longer one was", x, 3);
    }

    private static long wordOf(String text, int start) {
        long word = 0;
        for (int i = start; i < start + 8; i++) {
            word = word * 256 + (i < text.length() ? text.charAt(i) : 0);
        }
        return word;
    }
}
