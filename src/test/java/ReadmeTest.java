import java.io.IOException;
import java.nio.file.Files;
import java.nio.file.Path;
import java.util.regex.Matcher;
import java.util.regex.Pattern;

/** The calls that README.md shows, read from it, answer what it says behind them. */
public final class ReadmeTest {
    private static final Pattern ROW = Pattern.compile("halls\\.(\\w+)\\(([-0-9, ]*)\\); +// (-?\\d+)\\b.*");
    private static final int LEAST_ROWS = 10;

    private static final Due due = new Due();

    // .ci/run starts each test in the folder of the project.
    public static void main(String[] args) throws IOException {
        GateHalls halls = new GateHalls();
        int rows = 0;
        for (String line : Files.readAllLines(Path.of("README.md"))) {
            Matcher row = ROW.matcher(line);
            if (row.matches()) {
                rows++;
                String call = row.group(1) + "(" + row.group(2) + ")";
                due.is(call, answer(halls, row.group(1), numbers(row.group(2))), Integer.parseInt(row.group(3)));
            } else {
                due.is("a row of README.md that can be read: " + line, line.startsWith("halls.") ? 1 : 0, 0);
            }
        }
        due.is("enough rows in README.md", rows >= LEAST_ROWS ? 1 : 0, 1);
        due.end();
    }

    private static int[] numbers(String text) {
        String[] parts = text.split(", *");
        int[] numbers = new int[parts.length];
        for (int i = 0; i < parts.length; i++) {
            numbers[i] = Integer.parseInt(parts[i]);
        }
        return numbers;
    }

    private static int answer(GateHalls halls, String name, int[] n) {
        switch (name) {
            case "hall": return halls.hall(n[0], n[1], n[2]);
            case "share": return halls.share(n[0], n[1]);
            case "parent": return halls.parent(n[0], n[1]);
            case "fill": return halls.fill(n[0]);
            case "walk": return halls.walk(n[0], n[1], n[2]);
            case "seek": return halls.seek(n[0]);
            case "told": return halls.told(n[0], n[1]);
            case "gifts": return halls.gifts(n[0]);
            case "trace": return halls.trace(n[0]);
            case "count": return halls.count(n[0]);
            default: throw new IllegalArgumentException(name);
        }
    }
}
