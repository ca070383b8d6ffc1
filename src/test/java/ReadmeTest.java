import java.io.IOException;
import java.lang.reflect.Method;
import java.lang.reflect.Modifier;
import java.nio.file.Files;
import java.nio.file.Path;
import java.util.regex.Matcher;
import java.util.regex.Pattern;

/** README.md: its example answers as it says, and it names every call. */
public final class ReadmeTest {
    private static final Pattern CALL = Pattern.compile("x\\.(\\w+)\\((.*)\\); +// (-?\\d+|true|false)(:.*)?");
    private static final Pattern TEXT = Pattern.compile("feed\\(x, \"(.*)\"\\);");

    public static void main(String[] args) throws IOException, ReflectiveOperationException {
        String readme = Files.readString(Path.of("README.md"));
        showsTheHelper(readme);
        runExample(readme);
        namesEveryCall(readme);
        Check.finish("ReadmeTest");
    }

    static void feed(LanternState x, String text) {
        for (int from = 0; from < text.length(); from += 20) {
            int[] five = new int[5];
            for (int i = 0; i < 20; i++) {
                int letter = from + i < text.length() ? text.charAt(from + i) : ' ';
                five[i / 4] = five[i / 4] << 8 | letter;
            }
            x.feed(five[0], five[1], five[2], five[3], five[4]);
        }
        x.end(text.length());
    }

    /** The readme's helper is the one above, so that what is shown is what is run. */
    private static void showsTheHelper(String readme) throws IOException {
        String own = Files.readString(Path.of("src/test/java/ReadmeTest.java")).replaceAll("\\s+", " ");
        String shown = String.join(" ", block(readme, "static void feed(LanternState x, String text) {"));
        Check.due("the helper is shown as it is here", own.contains(shown.replaceAll("\\s+", " ")), true);
    }

    private static void runExample(String readme) throws ReflectiveOperationException {
        LanternState x = new LanternState();
        int lines = 0;
        for (String line : block(readme, "LanternState x = new LanternState();")) {
            Matcher call = CALL.matcher(line);
            Matcher text = TEXT.matcher(line);
            if (call.matches()) {
                Check.dueText(line, ask(x, call.group(1), call.group(2)), call.group(3));
                lines++;
            } else if (text.matches()) {
                feed(x, text.group(1));
            } else {
                Check.due("a line that can be run: " + line, line.isEmpty(), true);
            }
        }
        Check.due("the example asks something", lines > 20, true);
    }

    private static String[] block(String readme, String firstLine) {
        int from = readme.indexOf("```java\n" + firstLine + "\n");
        Check.due("there is a block that begins with " + firstLine, from >= 0, true);
        int begin = from + "```java\n".length() + firstLine.length() + 1;
        return readme.substring(begin, readme.indexOf("```", begin)).split("\n");
    }

    private static String ask(LanternState x, String name, String numbers) throws ReflectiveOperationException {
        String[] words = numbers.isEmpty() ? new String[0] : numbers.split(", ");
        Object[] values = new Object[words.length];
        Class<?>[] types = new Class<?>[words.length];
        for (int i = 0; i < words.length; i++) {
            values[i] = Integer.decode(words[i]);
            types[i] = int.class;
        }
        return String.valueOf(LanternState.class.getMethod(name, types).invoke(x, values));
    }

    private static void namesEveryCall(String readme) {
        String list = readme.substring(readme.indexOf("## Its calls"));
        for (Method m : LanternState.class.getDeclaredMethods()) {
            if (Modifier.isPublic(m.getModifiers())) {
                boolean named = list.contains("`" + m.getName() + "`");
                Check.due("the list names " + m.getName(), named, true);
            }
        }
    }
}
