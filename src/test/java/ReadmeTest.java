import java.io.IOException;
import java.nio.file.Files;
import java.nio.file.Path;
import java.util.ArrayList;
import java.util.List;

/** The example in README.md, line by line: the class answers what is written there. */
public final class ReadmeTest {
    private static final Checks CHECKS = new Checks();

    private ReadmeTest() {
    }

    public static void main(String[] args) throws IOException {
        List<String> shown = linesOfTheExample(Files.readAllLines(Path.of("README.md")));
        List<String> got = linesAnswered();
        CHECKS.same("lines of the example", got.size(), shown.size());
        for (int i = 0; i < Math.min(got.size(), shown.size()); i++) {
            CHECKS.same("\"" + shown.get(i) + "\" is \"" + got.get(i) + "\"", got.get(i).equals(shown.get(i)), true);
        }
        CHECKS.end();
    }

    /** The calls and their answers, without what is told of them behind a colon. */
    private static List<String> linesOfTheExample(List<String> readme) {
        int first = readme.indexOf("```java") + 1;
        List<String> lines = new ArrayList<>();
        for (String line : readme.subList(first, readme.size())) {
            if (line.equals("```")) {
                break;
            }
            lines.add(line.replaceFirst(" +// ", " // ").replaceFirst("( // [^:]*):.*", "$1"));
        }
        return lines;
    }

    private static String line(String call, Object answer) {
        return call + "; // " + answer;
    }

    private static List<String> linesAnswered() {
        List<String> lines = new ArrayList<>();
        ApologyLedger ledger = new ApologyLedger();
        lines.add("ApologyLedger ledger = new ApologyLedger();");
        int ada = ledger.addPerson(3);
        lines.add(line("int ada = ledger.addPerson(3)", ada));
        int bob = ledger.addPerson(0);
        lines.add(line("int bob = ledger.addPerson(0)", bob));
        int eve = ledger.addPerson(5);
        lines.add(line("int eve = ledger.addPerson(5)", eve));
        int slight = ledger.slight(bob, ada, 10);
        lines.add(line("int slight = ledger.slight(bob, ada, 10)", slight));
        lines.add(line("ledger.pass(5)", ledger.pass(5)));
        lines.add(line("ledger.weightOf(slight)", ledger.weightOf(slight)));
        lines.add(line("ledger.wordsWanted(slight)", ledger.wordsWanted(slight)));
        lines.add(line("ledger.apologize(slight, 2)", ledger.apologize(slight, 2)));
        lines.add(line("ledger.scorned()", ledger.scorned()));
        lines.add(line("ledger.enter(eve)", ledger.enter(eve)));
        lines.add(line("ledger.wordsWanted(slight)", ledger.wordsWanted(slight)));
        lines.add(line("ledger.apologize(slight, 4)", ledger.apologize(slight, 4)));
        int answer = ledger.slight(ada, bob, 8);
        lines.add(line("int answer = ledger.slight(ada, bob, 8)", answer));
        lines.add(line("ledger.setOff(slight, answer)", ledger.setOff(slight, answer)));
        lines.add(line("ledger.stateOf(slight)", ledger.stateOf(slight)));
        lines.add(line("ledger.weightOf(answer)", ledger.weightOf(answer)));
        lines.add(line("ledger.daysUntilForgotten(answer)", ledger.daysUntilForgotten(answer)));
        lines.add(line("ledger.pass(30)", ledger.pass(30)));
        lines.add(line("ledger.meanWeight()", ledger.meanWeight()));
        return lines;
    }
}
