import java.io.IOException;
import java.nio.file.Files;
import java.nio.file.Path;
import java.util.LinkedHashMap;
import java.util.Map;
import java.util.regex.Matcher;
import java.util.regex.Pattern;

/**
 * The document by its sections, and which of its sentences have a test: a test quotes the sentence
 * that it is of, and a boundary that stands in no quoted sentence is told as one without a test.
 */
final class Sentences {
    private static final Path DOCUMENT = Path.of("../shared/DOC.md");

    /** The words by which the document names a boundary case. */
    private static final Pattern BOUNDARY = Pattern.compile(
            "\\d+ to \\d+|\\bat (most|least|first|the most|the fewest)\\b|\\b(fewest|least|first|empty|any more|above 0|without)\\b"
            + "|\\b(none|None|only|can not|never|if it is the same|if there is one|as told|while there is any)\\b"
            + "|\\b(NONE|UNKNOWN|OUTSIDE|STATE|FULL|NO|LOST)\\b|\\((\\w+ = )?\\d+[;)]");

    private final Map<String, String> sections = new LinkedHashMap<>();
    private final Map<String, boolean[]> quoted = new LinkedHashMap<>();
    private String place = "";
    private int wrong = 0;

    Sentences() throws IOException {
        if (!Files.exists(DOCUMENT)) {
            // the answers are due all the same
            System.out.println("no document at " + DOCUMENT + ": what the tests quote is not looked up");
            return;
        }
        String name = "";
        for (String line : Files.readAllLines(DOCUMENT)) {
            if (line.startsWith("## ")) {
                name = line.substring(3).replaceAll(":.*", "");
            } else if (line.startsWith("======== ")) {
                name = "Terms " + line.charAt(9);
                sections.put(name, line.substring(10) + "\n");
            } else {
                sections.merge(name, line + "\n", String::concat);
            }
        }
        sections.forEach((section, text) -> quoted.put(section, new boolean[text.length()]));
    }

    private void complain(String what) {
        wrong++;
        System.out.println(what);
    }

    /** The sentence that what follows is a test of; it has to stand in that section just once. */
    void of(String section, String sentence) {
        place = section + ", \"" + sentence + "\"";
        if (sections.isEmpty()) {
            return;
        }
        String text = sections.getOrDefault(section, "");
        int at = text.indexOf(sentence);
        if (at < 0 || text.indexOf(sentence, at + 1) >= 0) {
            complain(place + ": not a sentence of the document");
            return;
        }
        for (int i = at; i < at + sentence.length(); i++) {
            quoted.get(section)[i] = true;
        }
    }

    void due(String call, long got, long want) {
        if (got != want) {
            complain(place + ": " + call + " answered " + got + ", due is " + want);
        }
    }

    void same(String what, String got, String want) {
        if (!got.equals(want)) {
            complain(place + ": " + what + " is " + got + ", due is " + want);
        }
    }

    /** Complains of each boundary that no test has quoted, between two texts of a section ("": its ends). */
    void allQuoted(String section, String from, String to) {
        if (sections.isEmpty()) {
            return;
        }
        String text = sections.getOrDefault(section, "");
        int begin = text.indexOf(from);
        int end = to.isEmpty() ? text.length() : text.indexOf(to, Math.max(0, begin));
        if (text.isEmpty() || begin < 0 || end < 0) {
            complain("the document has no such part of " + section + ": " + from + " .. " + to);
            return;
        }
        Matcher found = BOUNDARY.matcher(text).region(begin, end);
        while (found.find()) {
            if (!quoted.get(section)[found.start()]) {
                String near = text.substring(Math.max(0, found.start() - 40), Math.min(text.length(), found.end() + 40));
                complain(section + ": no test is of \"" + found.group() + "\" in .." + near.replace('\n', ' ') + "..");
            }
        }
    }

    void end() {
        if (wrong != 0) {
            System.out.println(wrong + " are wrong");
            System.exit(1);
        }
    }
}
