import java.io.IOException;
import java.nio.file.Files;
import java.nio.file.Path;
import java.util.ArrayList;
import java.util.List;
import java.util.regex.Matcher;
import java.util.regex.Pattern;

/** The example in README.md: each of its calls is made, and must answer the number that stands behind it. */
final class ReadmeTest {
    private static final Pattern CALL = Pattern.compile("x\\.(\\w+)\\((.*)\\);(?: *// (-?[0-9]+): .*)?");

    private ReadmeTest() {
    }

    public static void main(String[] args) throws IOException {
        String readme = Files.readString(Path.of("README.md"));
        String[] parts = readme.split("```(java)?\n");
        Check.same("parts of README.md around its example", parts.length, 3);
        ModemLink x = new ModemLink();
        int answered = 0;
        for (String line : parts[1].split("\n")) {
            Matcher call = CALL.matcher(line);
            if (call.matches()) {
                long got = answer(x, call.group(1), numbers(call.group(2)));
                if (call.group(3) != null) {
                    answered++;
                    Check.same(line, got, Long.parseLong(call.group(3)));
                }
            } else {
                Check.yes("not a call: " + line, line.startsWith("ModemLink x = new ModemLink();"));
            }
        }
        Check.same("calls with an answer", answered, 10);
        loads(x, readme);
        Check.finish();
    }

    private static List<Integer> numbers(String list) {
        List<Integer> numbers = new ArrayList<>();
        for (String number : list.split(", ")) {
            if (!number.isEmpty()) {
                numbers.add(Integer.decode(number));
            }
        }
        return numbers;
    }

    private static long answer(ModemLink x, String name, List<Integer> with) {
        switch (name) {
            case "dial": return x.dial();
            case "pass": return x.pass(with.get(0));
            case "feed": return x.feed(with.get(0), with.get(1), with.get(2), with.get(3), with.get(4));
            case "send": return x.send(with.get(0), with.get(1));
            case "nextCost": return x.nextCost(with.get(0));
            case "ticksToFinish": return x.ticksToFinish();
            case "received": return x.received(with.get(0), with.get(1));
            case "query": return x.query(with.get(0));
            case "undo": return x.undo();
            default: throw new IllegalStateException("the example calls " + name);
        }
    }

    private static void loads(ModemLink x, String readme) {
        String line = "line 9; rates 8 1, 20 4; window 7; delay 2 5; noise 0 0 9;";
        String test = "kind = 7 and not (tick < 10 or end = 1)";
        Check.yes("README.md has the text of load", readme.contains("`" + line + "`"));
        Check.yes("README.md has the test of query", readme.contains("`" + test + "`"));
        Check.same("load of the text in README.md", Check.load(x, line), 2);
        Check.same("many with the test in README.md", Check.query(x, "many " + test), 0);
        Check.same("first with the test in README.md", Check.query(x, "first " + test), -1);
    }
}
