/** Promise 1: the result of a new object is empty. */
final class NewObjectTest {
    public static void main(String[] args) {
        Checks.sentence("THE RESULT is empty");
        int[] places = {0, 1, 7, 8, 1611, 1612, 1 << 20, Integer.MAX_VALUE, -1, -8, Integer.MIN_VALUE};
        for (int i : places) {
            Checks.refusesWord("new object, word", new ExactNotation(), i);
        }
        staysEmptyAfterRefusedCalls();
        sharesNothingWithOthers();
        Checks.end();
    }

    private static void staysEmptyAfterRefusedCalls() {
        ExactNotation x = new ExactNotation();
        Checks.refusesShow(x, 3, 0, 0L);
        Checks.refusesShowFloat(x, 0, 1201, 0);
        Checks.refusesWord("empty, word", x, 0);
        Checks.refusesWord("after refused calls, word", x, 0);
    }

    private static void sharesNothingWithOthers() {
        ExactNotation used = new ExactNotation();
        int length = used.show(1, 2, false, false, Double.doubleToRawLongBits(12.25));
        ExactNotation fresh = new ExactNotation();
        Checks.refusesWord("another object was used, word", fresh, 0);
        Checks.result("another object was made", used, length, "12.25");
    }
}
