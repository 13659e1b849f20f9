import java.io.IOException;
import java.nio.file.Files;
import java.nio.file.Path;
import java.util.List;

/**
 * What LANGUAGE.md leaves out and a text can show. It also holds that no call makes an object: all
 * rows are made with the object, so a run's calls take no room of their own.
 */
public final class LanguageTest {
    private static final String[] BANNED = {
        "->", "::", "import ", "package ", "try", "catch", "finally", "throw", "synchronized", "assert", "static {",
        "System.out", "System.in", "System.nano", "System.current", "Thread", "Random", "Exact(", "double", "float",
        "String", "instanceof", "while", "protected", "volatile", "native", "transient", "var ",
    };
    private static int wrong = 0;

    private static void complain(int line, String why) {
        wrong++;
        System.out.println("line " + (line + 1) + ": " + why);
    }

    private static boolean isComment(String line) {
        String t = line.trim();
        return t.startsWith("/**") || t.startsWith("*") || t.startsWith("//");
    }

    private static void check(int number, String line) {
        for (int i = 0; i < line.length(); i++) {
            if (line.charAt(i) > 126 || line.charAt(i) < 32) {
                complain(number, "a sign that is not plain");
            }
        }
        if (isComment(line)) {
            return;
        }
        for (String banned : BANNED) {
            if (line.contains(banned)) {
                complain(number, "the word " + banned);
            }
        }
        boolean made = line.matches(" {8}(final \\S+ )?\\w+ = new .*;");
        if (line.contains("new ") && !made) {
            complain(number, "an object made behind the constructor");
        }
    }

    public static void main(String[] args) throws IOException {
        List<String> lines = Files.readAllLines(Path.of("src/main/java/CandleDebts.java"));
        for (int i = 0; i < lines.size(); i++) {
            check(i, lines.get(i));
        }
        if (wrong != 0) {
            System.exit(1);
        }
    }
}
