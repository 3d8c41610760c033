import java.io.IOException;
import java.nio.file.Files;
import java.nio.file.Path;
import java.util.regex.Matcher;
import java.util.regex.Pattern;

/** README.md: each call of its "Use" is made, in its order, and answers the number behind it. */
public final class ReadmeTest {
    private static final Check CHECK = new Check();
    private static final Pattern CALL = Pattern.compile("keeper\\.(\\w+)\\(([^)]*)\\); +// (-?\\d+):.*");

    private static long number(String written) {
        String digits = written.trim();
        if (digits.startsWith("0b")) {
            return Long.parseLong(digits.substring(2), 2);
        }
        if (digits.startsWith("0x")) {
            return Long.parseLong(digits.substring(2, digits.length() - 1), 16);
        }
        return Long.parseLong(digits);
    }

    private static long[] numbers(String written) {
        if (written.isBlank()) {
            return new long[0];
        }
        String[] parts = written.split(",");
        long[] numbers = new long[parts.length];
        for (int i = 0; i < parts.length; i++) {
            numbers[i] = number(parts[i]);
        }
        return numbers;
    }

    private static int call(FieldKeeper keeper, String name, long[] n) {
        int[] i = new int[n.length];
        for (int k = 0; k < n.length; k++) {
            i[k] = (int) n[k];
        }
        switch (name) {
            case "pitch":
                return keeper.pitch(i[0], i[1]);
            case "game":
                return keeper.game(i[0], i[1], i[2], i[3], i[4], i[5]);
            case "lay":
                return keeper.lay(i[0]);
            case "feed":
                return keeper.feed(n[0], n[1], n[2]);
            case "text":
                return keeper.text();
            case "day":
                return keeper.day(i[0], i[1]);
            case "turn":
                return keeper.turn(i[0]);
            case "grass":
                return keeper.grass(i[0], i[1], i[2]);
            case "look":
                return keeper.look(i[0], i[1]);
            case "at":
                return keeper.at(i[0], i[1], i[2]);
            case "club":
                return keeper.club(i[0], i[1]);
            case "field":
                return keeper.field(i[0], i[1]);
            case "would":
                return keeper.would(i[0], i[1]);
            case "count":
                return keeper.count(i[0]);
            default:
                throw new IllegalArgumentException("README.md has a call that there is not: " + name);
        }
    }

    public static void main(String[] args) throws IOException {
        FieldKeeper keeper = new FieldKeeper();
        int calls = 0;
        for (String line : Files.readAllLines(Path.of("README.md"))) {
            Matcher m = CALL.matcher(line);
            if (m.matches()) {
                int answer = call(keeper, m.group(1), numbers(m.group(2)));
                CHECK.due(line, answer, Long.parseLong(m.group(3)));
                calls++;
            } else {
                CHECK.due("has an answer: " + line, line.startsWith("keeper.") ? 1 : 0, 0);
            }
        }
        CHECK.due("there are calls in README.md", calls > 0 ? 1 : 0, 1);
        CHECK.finish();
    }
}
