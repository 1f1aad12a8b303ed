import java.io.IOException;
import java.lang.reflect.Method;
import java.nio.charset.StandardCharsets;
import java.nio.file.Files;
import java.nio.file.Path;
import java.util.regex.Matcher;
import java.util.regex.Pattern;

/** Makes the calls that README.md shows, and sees that each answers what stands behind it there. */
public final class ReadmeTest {
    private static final Path README = Path.of("README.md");
    private static final String NEW_OBJECT = "HiveBylaws hive = new HiveBylaws();";
    private static final Pattern CALL = Pattern.compile("hive\\.(\\w+)\\((.*)\\); +// (-?\\d+)(:.*)?");
    private static final Pattern TYPING =
            Pattern.compile("for \\(char c : \"([^\"]*)\"\\.toCharArray\\(\\)\\) hive\\.type\\(c\\);");

    public static void main(String[] args) throws ReflectiveOperationException, IOException {
        boolean isProgram = false;
        HiveBylaws hive = null;
        for (String line : Files.readAllLines(README, StandardCharsets.UTF_8)) {
            if (line.startsWith("```")) {
                isProgram = line.equals("```java");
            } else if (isProgram && line.equals(NEW_OBJECT)) {
                hive = new HiveBylaws();
            } else if (isProgram) {
                look(hive, line);
            }
        }
        Check.end();
    }

    private static void look(HiveBylaws hive, String line) throws ReflectiveOperationException {
        Matcher call = CALL.matcher(line);
        Matcher typing = TYPING.matcher(line);
        if (call.matches()) {
            int got = answer(hive, call.group(1), call.group(2));
            Check.due("README: " + call.group(1) + "(" + call.group(2) + ")", got, Integer.parseInt(call.group(3)));
        } else if (typing.matches()) {
            for (char c : typing.group(1).toCharArray()) {
                Check.holds("README: a character is typed", hive.type(c) > 0);
            }
        } else {
            Check.holds("README: a line that this test knows: " + line, false);
        }
    }

    private static int answer(HiveBylaws hive, String name, String arguments) throws ReflectiveOperationException {
        String[] words = arguments.isEmpty() ? new String[0] : arguments.split(", ");
        for (Method method : HiveBylaws.class.getMethods()) {
            if (method.getName().equals(name) && method.getParameterCount() == words.length) {
                return (int) method.invoke(hive, values(words));
            }
        }
        throw new NoSuchMethodException(name + " with " + words.length + " arguments");
    }

    private static Object[] values(String[] words) {
        Object[] values = new Object[words.length];
        for (int i = 0; i < words.length; i++) {
            values[i] = words[i].startsWith("'") ? (Object) words[i].charAt(1) : (Object) Integer.valueOf(words[i]);
        }
        return values;
    }
}
