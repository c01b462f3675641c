import java.io.IOException;
import java.nio.file.Files;
import java.nio.file.Path;
import java.util.ArrayList;
import java.util.List;

/** The example in README.md: its lines are those played here, and they answer what they tell. */
public final class ReadmeTest extends Sentences {
    private static final List<String> PLAYED = List.of(
        "PromiseVats net = new PromiseVats(2);", "net.code(0, 7, 0);", "net.code(0, 3, 1);",
        "net.code(1, 9, 0);", "net.give(0, 0, 1);", "net.poke(0, 5);", "net.turn(0);",
        "net.deliver(0, 1);", "net.turn(1);", "net.output(1, 0);", "net.resolved(net.slot(1, 1));");

    private static List<String> linesOfTheExample() throws IOException {
        List<String> lines = new ArrayList<>();
        boolean inside = false;
        for (String line : Files.readAllLines(Path.of("README.md"))) {
            if (line.startsWith("```")) {
                inside = line.equals("```java");
            } else if (inside) {
                lines.add(line.substring(0, line.indexOf(';') + 1));
            }
        }
        return lines;
    }

    private static void play() {
        sentence("README.md: the example");
        PromiseVats net = new PromiseVats(2);
        due("code", net.code(0, 7, 0), true);
        due("code", net.code(0, 3, 1), true);
        due("code", net.code(1, 9, 0), true);
        due("give", net.give(0, 0, 1), true);
        due("poke", net.poke(0, 5), true);
        due("turn of vat 0", net.turn(0), 1);
        due("deliver", net.deliver(0, 1), 1);
        due("turn of vat 1", net.turn(1), 2);
        due("output", net.output(1, 0), 5);
        due("resolved", net.resolved(net.slot(1, 1)), 0);
    }

    public static void main(String[] args) throws IOException {
        sentence("README.md: the lines of the example");
        List<String> lines = linesOfTheExample();
        due("whether " + lines + " are those played", lines.equals(PLAYED), true);
        play();
        Check.end();
    }
}
