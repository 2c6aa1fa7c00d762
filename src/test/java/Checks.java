/** What every test uses: it counts wrong answers and ends the program with 1 if there was one. */
final class Checks {
    private static int made = 0;
    private static int wrong = 0;
    private static String sentence = "";

    private Checks() {
    }

    /** Which words of the document the checks from here on are of; told with each wrong answer. */
    static void sentence(String words) {
        sentence = "[" + words + "] ";
    }

    static void same(String call, long got, long due) {
        same(call, Long.toString(got), Long.toString(due));
    }

    static void same(String call, String got, String due) {
        made++;
        if (!got.equals(due)) {
            wrong++;
            System.out.println(sentence + call + " answered " + got + ", due is " + due);
        }
    }

    /** The whole result of the last show, read eight bytes at a time. */
    static String read(ExactNotation x, int length) {
        StringBuilder text = new StringBuilder();
        for (int i = 0; i < length; i += 8) {
            long word = x.word(i);
            for (int shift = 56; shift >= 0; shift -= 8) {
                text.append((char) (word >>> shift & 0xFF));
            }
        }
        for (int i = length; i < text.length(); i++) {
            if (text.charAt(i) != 0) {
                return "no zeros behind the end: " + text;
            }
        }
        text.setLength(length);
        return text.toString();
    }

    /** Reads the result, and asks that the byte behind its end is none of it. */
    static void result(String call, ExactNotation x, int length, String due) {
        same(call + " length", length, due.length());
        same(call, read(x, length), due);
        refusesWord(call + ", word behind the end", x, length);
    }

    static void show(int kind, int p, boolean groups, boolean point, double value, String due) {
        ExactNotation x = new ExactNotation();
        show(x, kind, p, groups, point, Double.doubleToRawLongBits(value), due);
    }

    static void show(ExactNotation x, int kind, int p, boolean groups, boolean point, long bits, String due) {
        String call = call("show", kind, p, groups, point, bits);
        result(call, x, x.show(kind, p, groups, point, bits), due);
    }

    static void showFloat(int kind, int p, boolean groups, boolean point, float value, String due) {
        ExactNotation x = new ExactNotation();
        showFloat(x, kind, p, groups, point, Float.floatToRawIntBits(value), due);
    }

    static void showFloat(ExactNotation x, int kind, int p, boolean groups, boolean point, int bits, String due) {
        String call = call("showFloat", kind, p, groups, point, bits);
        result(call, x, x.showFloat(kind, p, groups, point, bits), due);
    }

    /** What holds of doubles and floats alike: the same number as either. */
    static void both(int kind, int p, boolean groups, boolean point, float value, String due) {
        show(kind, p, groups, point, value, due);
        showFloat(kind, p, groups, point, value, due);
    }

    static void bothRefuse(int kind, int p) {
        double[] numbers = {0.0, -1.5, Double.POSITIVE_INFINITY, Double.NaN};
        for (double number : numbers) {
            refusesShow(new ExactNotation(), kind, p, Double.doubleToRawLongBits(number));
            refusesShowFloat(new ExactNotation(), kind, p, Float.floatToRawIntBits((float) number));
        }
    }

    static void refusesShow(ExactNotation x, int kind, int p, long bits) {
        String thrown = "nothing";
        try {
            x.show(kind, p, true, true, bits);
        } catch (RuntimeException e) {
            thrown = e.getClass().getSimpleName();
        }
        same(call("show", kind, p, true, true, bits) + " throws", thrown, "IllegalArgumentException");
    }

    static void refusesShowFloat(ExactNotation x, int kind, int p, int bits) {
        String thrown = "nothing";
        try {
            x.showFloat(kind, p, true, true, bits);
        } catch (RuntimeException e) {
            thrown = e.getClass().getSimpleName();
        }
        same(call("showFloat", kind, p, true, true, bits) + " throws", thrown, "IllegalArgumentException");
    }

    static void refusesWord(String call, ExactNotation x, int i) {
        String thrown = "nothing";
        try {
            x.word(i);
        } catch (RuntimeException e) {
            thrown = e.getClass().getSimpleName();
        }
        same(call + " (" + i + ") throws", thrown, "IndexOutOfBoundsException");
    }

    /** The eight bytes of a text from start on as word tells them. */
    static long wordOf(String text, int start) {
        long word = 0;
        for (int i = start; i < start + 8; i++) {
            word = word * 256 + (i < text.length() ? text.charAt(i) : 0);
        }
        return word;
    }

    static void end() {
        System.out.println(made + " checks, " + wrong + " wrong");
        if (made == 0 || wrong != 0) {
            System.exit(1);
        }
    }

    private static String call(String name, int kind, int p, boolean groups, boolean point, long bits) {
        return name + "(" + kind + ", " + p + ", " + groups + ", " + point + ", " + bits + ")";
    }
}
