import java.io.IOException;
import java.nio.file.Files;
import java.nio.file.Path;
import java.util.ArrayList;
import java.util.List;
import java.util.Set;
import java.util.TreeSet;
import java.util.regex.Matcher;
import java.util.regex.Pattern;

/** The examples of README.md: each line of Java there is done, and answers what its comment says. */
final class ReadmeTest extends CardChecks {
    private static final String MAKING = "CardMachine card = new CardMachine();";
    private static final Pattern EXAMPLE =
            Pattern.compile("card\\.(\\w+)\\((.*)\\);\\s*// (-?\\w+)(: .*)?");
    private static final List<String> FACE = List.of("code", "codes", "method", "type", "run", "thrown0",
            "value", "reply", "used", "tear", "reset", "objects", "told", "cell");

    private final Set<String> called = new TreeSet<>();

    public static void main(String[] args) throws IOException {
        ReadmeTest test = new ReadmeTest();
        for (String line : linesOfJava(Path.of("README.md"))) {
            test.example(line);
        }
        for (String call : FACE) {
            test.due("README.md has an example of " + call, test.called.contains(call) ? 1 : 0, 1);
        }
        test.end();
    }

    private static List<String> linesOfJava(Path page) throws IOException {
        List<String> lines = new ArrayList<>();
        boolean inside = false;
        for (String line : Files.readAllLines(page)) {
            if (line.startsWith("```")) {
                inside = line.equals("```java");
            } else if (inside) {
                lines.add(line);
            }
        }
        return lines;
    }

    private void example(String line) {
        if (line.equals(MAKING)) {
            newCard();
            return;
        }
        Matcher parts = EXAMPLE.matcher(line);
        if (!parts.matches()) {
            throw new IllegalStateException("README.md has a line that is no example: " + line);
        }
        String[] arguments = parts.group(2).isEmpty() ? new String[0] : parts.group(2).split(", ");
        called.add(parts.group(1));
        due("README.md: " + line, answer(parts.group(1), arguments), answerSaid(parts.group(3)));
    }

    private static int answerSaid(String answer) {
        switch (answer) {
            case "BAD": return CardMachine.BAD;
            case "OFF": return CardMachine.OFF;
            case "FULL": return CardMachine.FULL;
            default: return Integer.parseInt(answer);
        }
    }

    private int answer(String call, String[] arguments) {
        switch (call) {
            case "code": return card.code(number(arguments[0]), number(arguments[1]));
            case "codes": return codes(arguments);
            case "method": return method(arguments);
            case "type": return card.type(number(arguments[0]));
            case "run": return card.run(number(arguments[0]), number(arguments[1]));
            case "thrown0": return card.thrown0();
            case "value": return card.value();
            case "reply": return card.reply(number(arguments[0]));
            case "used": return card.used();
            case "tear": return card.tear(number(arguments[0]));
            case "reset": return card.reset();
            case "objects": return card.objects();
            case "told": return card.told(number(arguments[0]), number(arguments[1]));
            case "cell": return card.cell(number(arguments[0]), number(arguments[1]));
            default: throw new IllegalStateException("the class has no call " + call);
        }
    }

    private int codes(String[] arguments) {
        long v = Long.decode(arguments[1].replace("L", ""));
        return card.codes(number(arguments[0]), v, number(arguments[2]));
    }

    private int method(String[] arguments) {
        boolean open = Boolean.parseBoolean(arguments[3]);
        return card.method(number(arguments[0]), number(arguments[1]), number(arguments[2]), open);
    }

    private static int number(String argument) {
        return Integer.parseInt(argument);
    }
}
