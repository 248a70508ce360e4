import java.io.IOException;
import java.nio.file.Files;
import java.nio.file.Path;
import java.util.List;
import java.util.regex.Matcher;
import java.util.regex.Pattern;

/** The use of the class in README.md: each of its calls answers as the number behind it says. Run where README.md is. */
public final class ReadmeTest {
    private static final Pattern TEXT = Pattern.compile("for \\(char letter : \"([^\"]*)\"\\.toCharArray\\(\\)\\) \\{");
    private static final Pattern CALL = Pattern.compile("x\\.(\\w+)\\(([^,)]*)(?:, ([^,)]*))?\\); +// (-?\\d+): .+");
    private static final int LEAST_CALLS = 10;

    private static int wrong = 0;

    private ReadmeTest() {
    }

    public static void main(String[] args) throws IOException {
        List<String> lines = Files.readAllLines(Path.of("README.md"));
        int begin = lines.indexOf("```java");
        int end = begin + lines.subList(begin + 1, lines.size()).indexOf("```") + 1;
        if (begin < 0 || end <= begin) {
            complain("there is no use of the class in README.md");
        } else {
            follow(lines.subList(begin + 1, end));
        }
        System.out.println("README.md: " + wrong + " wrong");
        if (wrong != 0) {
            System.exit(1);
        }
    }

    private static void complain(String what) {
        wrong++;
        System.out.println(what);
    }

    /** The text is typed where its loop stands; every other line is a call with its answer. */
    private static void follow(List<String> lines) {
        int calls = 0;
        ClockCrossings x = new ClockCrossings();
        for (int i = 0; i < lines.size(); i++) {
            Matcher text = TEXT.matcher(lines.get(i));
            Matcher call = CALL.matcher(lines.get(i));
            if (text.matches() && i + 2 < lines.size()) {
                Checks.write(x, text.group(1));
                expect(lines.get(i + 1), "    x.type(letter);");
                expect(lines.get(i + 2), "}");
                i += 2;
            } else if (call.matches()) {
                calls++;
                due(lines.get(i), answer(x, call), Integer.parseInt(call.group(4)));
            } else {
                expect(lines.get(i), "ClockCrossings x = new ClockCrossings();");
            }
        }
        if (calls < LEAST_CALLS) {
            complain("only " + calls + " calls with answers were found");
        }
    }

    private static int answer(ClockCrossings x, Matcher call) {
        return new Run.Call(call.group(1), number(call.group(2)), number(call.group(3))).on(x);
    }

    private static int number(String written) {
        if (written == null || written.isEmpty()) {
            return 0;
        }
        return written.matches("'.'") ? written.charAt(1) : Integer.parseInt(written);
    }

    private static void expect(String line, String want) {
        if (!line.equals(want)) {
            complain("this line is no call with an answer: " + line);
        }
    }

    private static void due(String line, int got, int want) {
        if (got != want) {
            complain("answered " + got + ": " + line);
        }
    }
}
