import java.io.IOException;
import java.nio.file.Files;
import java.nio.file.Path;
import java.util.regex.Matcher;
import java.util.regex.Pattern;

/** The lines of README.md that show how to use the class: each is called, and answers what it says. */
public final class ReadmeTest {
    private static final Pattern LINE = Pattern.compile("(?m)^x\\.(\\w+)\\(([^)]*)\\); +// (-?\\d+)");
    private static final int LINES = 29;

    public static void main(String[] args) throws IOException {
        LightLines x = new LightLines();
        Matcher line = LINE.matcher(Files.readString(Path.of("README.md")));
        int lines = 0;
        while (line.find()) {
            lines++;
            Check.due(line.group(), answer(x, line.group(1), numbers(line.group(2))), Integer.parseInt(line.group(3)));
        }
        Check.due("lines of README.md", lines, LINES);
        Check.end();
    }

    private static int answer(LightLines x, String name, long[] a) {
        return name.equals("feed") ? x.feed(a[0], (int) a[1]) : Check.call(x, name, ints(a));
    }

    private static int[] ints(long[] numbers) {
        int[] a = new int[numbers.length];
        for (int i = 0; i < a.length; i++) {
            a[i] = (int) numbers[i];
        }
        return a;
    }

    private static long[] numbers(String said) {
        String[] parts = said.isEmpty() ? new String[0] : said.split(", ");
        long[] numbers = new long[parts.length];
        for (int i = 0; i < parts.length; i++) {
            numbers[i] = Long.decode(parts[i].replace("L", ""));
        }
        return numbers;
    }
}
