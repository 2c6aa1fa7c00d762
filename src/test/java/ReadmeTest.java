import java.io.IOException;
import java.nio.file.Files;
import java.nio.file.Path;

/** The examples of README.md, read from it where they stand in a table. */
final class ReadmeTest {
    private static final int CELLS = 6;

    public static void main(String[] args) throws IOException {
        code();
        int rows = 0;
        for (String line : Files.readAllLines(Path.of("README.md"))) {
            String[] cells = line.replaceFirst("^\\| ", "").split(" \\| | \\|$");
            if (cells.length == CELLS && cells[1].matches("[0-2]")) {
                row(cells);
                rows++;
            }
        }
        Checks.same("rows of examples in README.md", rows, 14);
        Checks.end();
    }

    private static void code() {
        ExactNotation x = new ExactNotation();
        int length = x.show(1, 2, true, false, Double.doubleToRawLongBits(1234567.891));
        Checks.same("length", length, 12);
        Checks.same("first", x.word(0), Checks.wordOf("1,234,56", 0));
        Checks.same("rest", x.word(8), Checks.wordOf("7.89", 0));
    }

    private static void row(String[] cells) {
        double number = Double.parseDouble(cells[0]);
        int kind = Integer.parseInt(cells[1]);
        int p = Integer.parseInt(cells[2]);
        boolean groups = cells[3].equals("yes");
        boolean point = cells[4].equals("yes");
        Checks.show(kind, p, groups, point, number, cells[5].replace("`", ""));
    }
}
