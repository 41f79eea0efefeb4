import java.io.IOException;
import java.nio.file.Files;
import java.nio.file.Path;
import java.util.ArrayList;
import java.util.List;
import java.util.regex.Matcher;
import java.util.regex.Pattern;

/** README.md names every call with its exceptions, has the form of the command text, and its examples do what it says. */
public final class ReadmeTest {
    private static final Checks CHECKS = new Checks("ReadmeTest");
    private static final Pattern CALL = Pattern.compile("    public \\w+ (\\w+)\\(([^)]*)\\)(?: throws ([^;]*))?;");
    private static final Pattern ROW = Pattern.compile("(?m)^\\| `(\\w+\\([\\w, ]*\\))` \\| .* \\|(.*)\\|$");
    private static final Pattern EXCEPTION = Pattern.compile("\\w+Exception");

    private ReadmeTest() {
    }

    public static void main(String[] args) throws IOException {
        String readme = Files.readString(Path.of("README.md"));
        String document = Files.readString(Path.of("../shared/DOC.md"));
        CHECKS.due(1, "the calls and their exceptions", callsOf(document), rowsOf(readme));
        CHECKS.due(41, "the form of the command text", blocks(document, "text").get(0).replaceAll("(?m)^  ", ""),
                blocks(readme, "text").get(0));
        String source = withoutIndents(Files.readString(Path.of("src/test/java/ReadmeTest.java")));
        List<String> examples = blocks(readme, "java");
        CHECKS.due(1, "the number of examples", 3, examples.size());
        for (String example : examples) {
            CHECKS.due(1, "this test has the example " + example, true, source.contains(withoutIndents(example)));
        }
        theExamples();
        CHECKS.finish();
    }

    private static List<String> callsOf(String document) {
        List<String> found = new ArrayList<>();
        Matcher matcher = CALL.matcher(document);
        while (matcher.find()) {
            String parameters = matcher.group(2).replaceAll("\\w+ (\\w+)", "$1");
            String exceptions = matcher.group(3) == null ? "" : matcher.group(3);
            found.add(matcher.group(1) + "(" + parameters + ") throws " + exceptions);
        }
        return found;
    }

    private static List<String> rowsOf(String readme) {
        List<String> found = new ArrayList<>();
        Matcher matcher = ROW.matcher(readme);
        while (matcher.find()) {
            List<String> exceptions = EXCEPTION.matcher(matcher.group(2)).results().map(r -> r.group()).toList();
            found.add(matcher.group(1) + " throws " + String.join(", ", exceptions));
        }
        return found;
    }

    private static List<String> blocks(String page, String language) {
        return Pattern.compile("(?s)```" + language + "\n(.*?)```").matcher(page).results().map(r -> r.group(1)).toList();
    }

    private static String withoutIndents(String text) {
        return text.replaceAll("(?m)^ +", "");
    }

    /** The lines of the three examples stand here as they stand in README.md. */
    private static void theExamples() {
        IceBells bells = new IceBells();
        int lake = bells.addLake(300);         // 300 cm deep; the number of the first lake is 0
        bells.freeze(lake, 10, -20);           // a layer of 10 cm at -20 degrees
        bells.freeze(lake, 25, -5);            // a layer of 25 cm at -5 degrees beneath it
        bells.setAir(-30);
        int hours = bells.hoursUntilCrack();   // 3: asks, and changes nothing
        int cracks = bells.pass(hours);        // 1
        int pitch = bells.strike(lake, 0);     // 28: 100 / 10 + 18
        char kind = bells.pealKind(0);         // 's', the strike; pealKind(1) is 'c', the crack
        int left = bells.undo();               // takes the strike back; 5 changes can still be undone

        CHECKS.due(2, "addLake(300)", 0, lake);
        CHECKS.due(17, "hoursUntilCrack()", 3, hours);
        CHECKS.due(15, "pass(hours)", 1, cracks);
        CHECKS.due(25, "strike(lake, 0)", 28, pitch);
        CHECKS.due(28, "pealKind(0)", 's', kind);
        CHECKS.due(28, "pealKind(0) after undo()", 'c', bells.pealKind(0));
        CHECKS.due(50, "undo()", 5, left);

        int ice = 0;
        try {
            bells.freeze(lake, 50, -1);
            bells.freeze(lake, 50, -1);
            bells.freeze(lake, 50, -1);
        } catch (UnsupportedOperationException e) {
            ice = bells.iceThickness(lake);    // 135: with the third layer it would be thicker than 150
        }
        CHECKS.due(3, "iceThickness(lake) after the refusal", 135, ice);

        for (char c : "air -5;pass 3;strike 00".toCharArray()) {
            bells.append(c);
        }
        int commands = 0;
        try {
            commands = bells.run();            // 3
        } catch (IllegalArgumentException e) {
            System.out.println("no command text from character " + bells.errorPosition());
        } catch (IllegalStateException e) {
            System.out.println("command " + bells.failedCommand() + " fails: " + bells.failureKind());
        }
        CHECKS.due(41, "run()", 3, commands);
        CHECKS.thrown(42, "errorPosition()", Checks.NO_ELEMENT, bells::errorPosition);
        CHECKS.thrown(43, "failedCommand()", Checks.NO_ELEMENT, bells::failedCommand);
        CHECKS.thrown(41, "run() of \"air 5;\"", Checks.ARGUMENT, () -> Checks.runText(bells, "air 5;"));
        CHECKS.due(42, "errorPosition() of \"air 5;\"", "air 5;".length(), bells.errorPosition());
    }
}
