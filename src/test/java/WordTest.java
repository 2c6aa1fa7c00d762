/** Promise 4: word. */
final class WordTest {
    private static final int[] FAR_OFF = {-8, 40000, 1 << 20, -1 << 20, Integer.MAX_VALUE - 7, Integer.MAX_VALUE,
        Integer.MIN_VALUE, Integer.MIN_VALUE + 7};

    public static void main(String[] args) {
        everyPlaceOfEveryLength();
        everyPlaceOfTheLongest();
        theHighestFirst();
        zerosBehindTheEnd();
        noByteOfAnEmptyResult();
        noByteOfInfinityAndNaN();
        nothingOfALongerResultBefore();
        sameAnswerAgain();
        Checks.end();
    }

    private static void everyPlaceOfEveryLength() {
        Checks.sentence("8 bytes of THE RESULT from i on .. i is none of its bytes");
        for (int behind = 0; behind <= 20; behind++) {
            ExactNotation x = new ExactNotation();
            String text = "1,234,567" + (behind == 0 ? "" : ".") + "0".repeat(behind);
            Checks.same("length", x.show(1, behind, true, false, bitsOf(1234567.0)), text.length());
            checkEveryPlace(x, text);
        }
    }

    /** More places than an object has calls: each object is asked for a part of them. */
    private static void everyPlaceOfTheLongest() {
        Checks.sentence("8 bytes of THE RESULT from i on: of the longest");
        ExactNotation read = new ExactNotation();
        int length = read.show(1, 1200, true, true, bitsOf(Double.MAX_VALUE));
        String text = Checks.read(read, length);
        for (int from = 0; from < length; from += 500) {
            ExactNotation x = new ExactNotation();
            x.show(1, 1200, true, true, bitsOf(Double.MAX_VALUE));
            for (int i = from; i < Math.min(from + 500, length); i++) {
                Checks.same("word(" + i + ")", x.word(i), Checks.wordOf(text, i));
            }
            Checks.refusesWord("behind the longest", x, length);
        }
    }

    private static void theHighestFirst() {
        Checks.sentence("the highest first");
        ExactNotation x = new ExactNotation();
        x.show(1, 0, false, false, bitsOf(123456789.0));
        Checks.same("word(0)", x.word(0), 0x3132333435363738L);
        Checks.same("word(1)", x.word(1), 0x3233343536373839L);
    }

    private static void zerosBehindTheEnd() {
        Checks.sentence("zeros behind its end");
        ExactNotation x = new ExactNotation();
        x.show(1, 0, false, false, bitsOf(12345678.0));
        Checks.same("none of eight", x.word(0), 0x3132333435363738L);
        Checks.same("one of eight", x.word(1), 0x3233343536373800L);
        Checks.same("seven of eight", x.word(7), 0x3800000000000000L);
        Checks.refusesWord("eight of eight", x, 8);
        x.show(1, 0, false, false, bitsOf(7.0));
        Checks.same("behind the only byte", x.word(0), 0x3700000000000000L);
        Checks.refusesWord("behind the only byte", x, 1);
    }

    private static void noByteOfAnEmptyResult() {
        Checks.sentence("i is none of its bytes: the result is empty");
        ExactNotation x = new ExactNotation();
        Checks.refusesWord("of a new object", x, 0);
        Checks.refusesWord("of a new object", x, 1);
        Checks.refusesWord("of a new object", x, -1);
        refusesFarOff(x);
    }

    private static void noByteOfInfinityAndNaN() {
        Checks.sentence("i is none of its bytes: of Infinity and NaN");
        ExactNotation x = new ExactNotation();
        x.show(0, 1200, true, true, bitsOf(Double.NEGATIVE_INFINITY));
        checkEveryPlace(x, "Infinity");
        x.showFloat(1, 1200, true, true, Float.floatToRawIntBits(Float.NaN));
        checkEveryPlace(x, "NaN");
    }

    private static void nothingOfALongerResultBefore() {
        Checks.sentence("zeros behind its end: a longer result was before");
        ExactNotation x = new ExactNotation();
        x.show(0, 40, false, false, bitsOf(0.1));
        x.showFloat(0, 0, false, false, Float.floatToRawIntBits(Float.NaN));
        Checks.same("nothing of the longer one", x.word(0), 0x4E614E0000000000L);
        Checks.refusesWord("where the longer one was", x, 3);
        Checks.refusesWord("where the longer one was", x, 8);
    }

    private static void sameAnswerAgain() {
        Checks.sentence("word changes nothing");
        ExactNotation x = new ExactNotation();
        x.show(0, 3, false, false, bitsOf(0.5));
        for (int again = 0; again < 3; again++) {
            Checks.same("word(2)", x.word(2), Checks.wordOf("5.000e-01", 2));
            Checks.refusesWord("behind the end", x, 9);
        }
    }

    private static void checkEveryPlace(ExactNotation x, String text) {
        Checks.refusesWord("before the first", x, -1);
        for (int i = 0; i < text.length(); i++) {
            Checks.same("word(" + i + ") of " + text, x.word(i), Checks.wordOf(text, i));
        }
        for (int i = text.length(); i < text.length() + 9; i++) {
            Checks.refusesWord("behind the end of " + text, x, i);
        }
        refusesFarOff(x);
        Checks.same("word(0) after refused ones", x.word(0), Checks.wordOf(text, 0));
    }

    private static void refusesFarOff(ExactNotation x) {
        for (int i : FAR_OFF) {
            Checks.refusesWord("far off", x, i);
        }
    }

    private static long bitsOf(double value) {
        return Double.doubleToRawLongBits(value);
    }
}
