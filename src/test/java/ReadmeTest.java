import java.io.IOException;
import java.lang.reflect.Method;
import java.lang.reflect.Modifier;
import java.nio.file.Files;
import java.nio.file.Path;
import java.util.Set;
import java.util.TreeSet;
import java.util.regex.Matcher;
import java.util.regex.Pattern;

/**
 * The lines of Java in README.md, run one behind another: each answers what stands at the head of its
 * comment, and each call of the face is shown at least once.
 */
public final class ReadmeTest {
    private static final Pattern CALL = Pattern.compile("town\\.(\\w+)\\(([^)]*)\\); +// (-?\\w+)(: .*|,? .*|)");
    private static final Pattern TEXT = Pattern.compile("for \\(char sign : \"(\\S+)\"\\.toCharArray\\(\\)\\) town\\.say\\(sign\\);");
    private static final String ANEW = "CandleDebts town = new CandleDebts();";

    private static int wrong = 0;
    private static CandleDebts town = null;
    private static int calls = 0;

    private static void complain(String line, String why) {
        wrong++;
        System.out.println("README.md: " + line + ": " + why);
    }

    private static int number(String told) {
        return told.startsWith("'") ? told.charAt(1) : Integer.parseInt(told);
    }

    private static long answer(String told) throws ReflectiveOperationException {
        boolean named = Character.isLetter(told.charAt(0));
        return named ? CandleDebts.class.getField(told).getLong(null) : Long.parseLong(told);
    }

    private static long call(String name, String told) throws ReflectiveOperationException {
        String[] numbers = told.isEmpty() ? new String[0] : told.split(", ");
        Class<?>[] types = new Class<?>[numbers.length];
        Object[] given = new Object[numbers.length];
        for (int i = 0; i < numbers.length; i++) {
            types[i] = int.class;
            given[i] = number(numbers[i]);
        }
        Method method = CandleDebts.class.getMethod(name, types);
        calls++;
        return ((Number) method.invoke(town, given)).longValue();
    }

    private static void run(String line, Set<String> unshown) throws ReflectiveOperationException {
        Matcher text = TEXT.matcher(line);
        Matcher call = CALL.matcher(line);
        if (line.equals(ANEW)) {
            town = new CandleDebts();
            calls = 0;
        } else if (text.matches()) {
            for (char sign : text.group(1).toCharArray()) {
                town.say(sign);
                calls++;
            }
        } else if (call.matches()) {
            long got = call(call.group(1), call.group(2));
            if (got != answer(call.group(3))) {
                complain(line, "it answered " + got);
            }
            unshown.remove(call.group(1));
        } else {
            complain(line, "not a line that can be run here");
        }
    }

    public static void main(String[] args) throws IOException, ReflectiveOperationException {
        Set<String> unshown = new TreeSet<>();
        for (Method method : CandleDebts.class.getDeclaredMethods()) {
            if (Modifier.isPublic(method.getModifiers())) {
                unshown.add(method.getName());
            }
        }
        boolean java = false;
        for (String line : Files.readAllLines(Path.of("README.md"))) {
            if (line.startsWith("```")) {
                java = line.equals("```java");
            } else if (java) {
                run(line, unshown);
            }
        }
        if (!unshown.isEmpty()) {
            complain("all lines", "calls that are not shown: " + unshown);
        }
        if (calls > 512) {
            complain("all lines", "more calls than an object is good for: " + calls);
        }
        if (wrong != 0) {
            System.exit(1);
        }
    }
}
