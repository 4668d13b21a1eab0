import java.io.IOException;
import java.lang.reflect.Method;
import java.nio.file.Files;
import java.nio.file.Path;
import java.util.regex.Matcher;
import java.util.regex.Pattern;

/** What README.md tells is so: its example answers as told, and it names every call of the face. */
public final class ReadmeTest {
    private static final Pattern TOLD = Pattern.compile("tell\\(x, \"(.*)\"\\);");
    private static final Pattern CALL = Pattern.compile("x\\.(\\w+)\\((.*?)\\); +// (true|false|-?\\d+): .+");
    private static final int FEWEST_CALLS = 40;

    public static void main(String[] args) throws IOException, ReflectiveOperationException {
        String text = Files.readString(Path.of("README.md"));
        int from = text.indexOf("```java\nOutwardDoors x = new OutwardDoors();\n");
        int to = text.indexOf("```\n", from + 1);
        Check.due("README.md has an example", from >= 0 && to > from, true);
        if (from >= 0 && to > from) {
            Check.due("too few calls in the example", runExample(text.substring(from, to)) < FEWEST_CALLS, false);
        }
        takeTexts(text.split("\n"));
        for (Method method : OutwardDoors.class.getMethods()) {
            if (method.getDeclaringClass() == OutwardDoors.class) {
                Check.due("README.md names " + method.getName(), text.contains("`" + method.getName() + "("), true);
            }
        }
        Check.finish("ReadmeTest");
    }

    /** The texts shown on lines of their own can be taken. */
    private static void takeTexts(String[] lines) {
        OutwardDoors x = new OutwardDoors();
        int taken = 0;
        for (String line : lines) {
            boolean castle = line.startsWith("    castle ");
            if (castle || line.startsWith("    go ")) {
                int answer = castle ? Check.castle(x, line.trim()) : Check.rule(x, line.trim());
                Check.due("README.md shows a text with a fault: " + line, answer < 0, false);
                taken++;
            }
        }
        Check.due("README.md shows texts", taken > 0, true);
    }

    private static int runExample(String example) throws ReflectiveOperationException {
        OutwardDoors x = new OutwardDoors();
        int calls = 0;
        String[] lines = example.split("\n");
        for (int k = 2; k < lines.length; k++) {
            Matcher told = TOLD.matcher(lines[k]);
            Matcher call = CALL.matcher(lines[k]);
            if (told.matches()) {
                Check.tell(x, told.group(1));
            } else if (call.matches()) {
                Check.due("README.md: x." + call.group(1) + "(" + call.group(2) + ")",
                    " " + answer(x, call.group(1), call.group(2)), " " + call.group(3));
                calls++;
            } else {
                Check.due("README.md has a line of its own form: " + lines[k], lines[k].isEmpty(), true);
            }
        }
        return calls;
    }

    private static Object answer(OutwardDoors x, String name, String list) throws ReflectiveOperationException {
        String[] words = list.isEmpty() ? new String[0] : list.split(", ");
        Class<?>[] types = new Class<?>[words.length];
        Object[] numbers = new Object[words.length];
        for (int k = 0; k < words.length; k++) {
            types[k] = int.class;
            numbers[k] = Integer.valueOf(words[k]);
        }
        return OutwardDoors.class.getMethod(name, types).invoke(x, numbers);
    }
}
