import java.io.IOException;
import java.nio.file.Files;
import java.nio.file.Path;
import java.util.ArrayList;
import java.util.LinkedHashSet;
import java.util.List;
import java.util.Set;
import java.util.regex.Pattern;

/** The sentences of DOC.md, and which of them a test has quoted. Section 0 is "Terms", section n is promise n. */
final class Document {
    static final int TERMS = 0;
    private static final int PROMISES = 52;
    private static final Pattern BOUNDARY = Pattern.compile(
            "^Throws |\\d|at least|empty|none|\\bno\\b|\\bnot\\b|\\bany\\b|negative|replacing|kept|latest|set last|so far");

    private final List<Set<String>> sentences = new ArrayList<>();
    private final List<Set<String>> quoted = new ArrayList<>();

    Document(Path path) {
        for (int i = 0; i <= PROMISES; i++) {
            sentences.add(new LinkedHashSet<>());
            quoted.add(new LinkedHashSet<>());
        }
        for (String section : textOf(path).replaceAll("(?s)```.*?```", "").split("\n## ")) {
            String title = section.lines().findFirst().orElse("");
            if (title.equals("Terms")) {
                readInto(sentences.get(TERMS), section);
            } else if (title.startsWith("Promise ")) {
                readInto(sentences.get(Integer.parseInt(title.replaceAll("\\D*(\\d+):.*", "$1"))), section);
            }
        }
    }

    private static String textOf(Path path) {
        try {
            return Files.readString(path);
        } catch (IOException e) {
            return "";
        }
    }

    private static void readInto(Set<String> found, String section) {
        for (String line : section.lines().skip(1).toList()) {
            String words = line.replaceAll("^(- |`[^`]*`: )", "");
            for (String sentence : words.split("(?<=\\.) (?=[A-Z])")) {
                // What stands before a paragraph, such as "Hours." or "Step 1.", is no sentence.
                if (sentence.split(" ").length > 2 && !sentence.startsWith("Ahead of the calls")) {
                    found.add(sentence);
                }
            }
        }
    }

    /** Remembers that a test goes by a sentence; answers whether the document has it. */
    boolean quote(int section, String sentence) {
        quoted.get(section).add(sentence);
        return sentences.get(section).contains(sentence);
    }

    /** The sentences that name a boundary case, and that no test has quoted; all of "Terms" count as such. */
    List<String> unquotedBoundaries() {
        List<String> left = new ArrayList<>();
        for (int section = 0; section <= PROMISES; section++) {
            if (sentences.get(section).isEmpty()) {
                left.add("section " + section + " is missing");
            }
            for (String sentence : sentences.get(section)) {
                if (namesBoundary(section, sentence) && !quoted.get(section).contains(sentence)) {
                    left.add(section + ": " + sentence);
                }
            }
        }
        return left;
    }

    /** The other sentences of the promises that no test has quoted, but for those that tell a parameter's name alone. */
    List<String> unquotedOthers() {
        List<String> left = new ArrayList<>();
        for (int section = 1; section <= PROMISES; section++) {
            if (quoted.get(section).isEmpty()) {
                left.add("all of promise " + section);
            }
            for (String sentence : sentences.get(section)) {
                boolean parameter = sentence.startsWith("`");
                if (!namesBoundary(section, sentence) && !parameter && !quoted.get(section).contains(sentence)) {
                    left.add(section + ": " + sentence);
                }
            }
        }
        return left;
    }

    private static boolean namesBoundary(int section, String sentence) {
        return section == TERMS || BOUNDARY.matcher(sentence).find();
    }
}
