import java.io.IOException;
import java.lang.reflect.Constructor;
import java.lang.reflect.Field;
import java.lang.reflect.Method;
import java.lang.reflect.Modifier;
import java.nio.charset.StandardCharsets;
import java.nio.file.Files;
import java.nio.file.Path;
import java.util.ArrayList;
import java.util.List;
import java.util.Set;
import java.util.TreeSet;
import java.util.regex.Matcher;
import java.util.regex.Pattern;

/** The face of the document, and those rules of ../shared/LANGUAGE.md that can be looked up in the source. */
public final class LanguageTest {
    private static final Path SOURCE = Path.of("src/main/java/HiveBylaws.java");

    private static final Set<String> FACE = Set.of(
            "int come(int, int)", "int move(int, int)", "int petition(int, int, int, int)", "int second(int, int)",
            "int pass(int)", "int set(int, int)", "int type(char)", "int clearText()", "int perform()",
            "int stopped(int)", "int undo()", "int keep()", "int restore()", "int drone(int, int)",
            "int bylaw(int, int)", "int petitionOf(int, int)", "int heard(int)", "int rule(int, int, int)",
            "int reason(int)", "int wouldPass()", "int lacks(int)", "int free()", "int oldest(int, int)",
            "int count(int)");

    private static final Set<String> CONSTANTS = Set.of("UNKNOWN", "BAD_VALUE", "FULL", "NOT_POSSIBLE", "NONE");

    /** Words that the rules leave no use for in a program without throwing, lambdas and other libraries. */
    private static final String FORBIDDEN_WORDS = "\\b(import|package|throw|throws|try|catch|finally|synchronized|assert"
            + "|volatile|native|var|equals|hashCode|getClass|Object|float|double|protected)\\b|->|::|@";

    public static void main(String[] args) throws IOException {
        face();
        List<Class<?>> classes = new ArrayList<>(List.of(HiveBylaws.class.getDeclaredClasses()));
        for (Class<?> inside : classes) {
            Check.holds(inside + " is static and not public", Modifier.isStatic(inside.getModifiers())
                    && !Modifier.isPublic(inside.getModifiers()) && !Modifier.isProtected(inside.getModifiers()));
        }
        classes.add(HiveBylaws.class);
        Check.holds("at most twelve classes", classes.size() <= 12);
        for (Class<?> one : classes) {
            members(one);
        }
        source(Files.readString(SOURCE, StandardCharsets.UTF_8));
        Check.end();
    }

    private static String signature(Method method) {
        StringBuilder text = new StringBuilder(method.getReturnType() + " " + method.getName() + "(");
        for (Class<?> type : method.getParameterTypes()) {
            text.append(text.charAt(text.length() - 1) == '(' ? "" : ", ").append(type);
        }
        return text.append(")").toString();
    }

    private static void face() {
        Check.holds("public and final", Modifier.isPublic(HiveBylaws.class.getModifiers())
                && Modifier.isFinal(HiveBylaws.class.getModifiers()));
        Set<String> found = new TreeSet<>();
        Set<String> names = new TreeSet<>();
        for (Method method : HiveBylaws.class.getDeclaredMethods()) {
            if (!Modifier.isPrivate(method.getModifiers())) {
                Check.holds(method + " is public, not static", Modifier.isPublic(method.getModifiers())
                        && !Modifier.isStatic(method.getModifiers()));
                found.add(signature(method));
                names.add(method.getName());
            }
        }
        Check.holds("the methods of the face: " + found, found.equals(new TreeSet<>(FACE)));
        Constructor<?>[] constructors = HiveBylaws.class.getDeclaredConstructors();
        Check.holds("one public constructor without parameters", constructors.length == 1
                && Modifier.isPublic(constructors[0].getModifiers()) && constructors[0].getParameterCount() == 0);
        Set<String> fields = new TreeSet<>();
        for (Field field : HiveBylaws.class.getDeclaredFields()) {
            if (!Modifier.isPrivate(field.getModifiers())) {
                Check.holds(field + " is a public constant", field.getType() == int.class
                        && field.getModifiers() == (Modifier.PUBLIC | Modifier.STATIC | Modifier.FINAL));
                fields.add(field.getName());
            }
        }
        Check.holds("the constants of the face: " + fields, fields.equals(new TreeSet<>(CONSTANTS)));
        for (Class<?> inside : HiveBylaws.class.getDeclaredClasses()) {
            for (Method method : inside.getDeclaredMethods()) {
                Check.holds(method + " bears no name of the face", !names.contains(method.getName()));
            }
        }
        for (Method method : HiveBylaws.class.getDeclaredMethods()) {
            Check.holds(method + " bears no name of the face",
                    !Modifier.isPrivate(method.getModifiers()) || !names.contains(method.getName()));
        }
    }

    private static void members(Class<?> one) {
        int fields = 0;
        for (Field field : one.getDeclaredFields()) {
            if (Modifier.isStatic(field.getModifiers())) {
                Check.holds(field + " is final", Modifier.isFinal(field.getModifiers()));
            } else {
                fields++;
            }
        }
        Check.holds(one + " has at most twenty fields", fields <= 20);
        for (Method method : one.getDeclaredMethods()) {
            Check.holds(method + " takes at most seven parameters", method.getParameterCount() <= 7);
        }
    }

    private static void source(String text) {
        Check.holds("plain signs alone", text.chars().allMatch(c -> c == '\n' || c >= 32 && c <= 126));
        // Comments and texts are blanked, so that what is left is code.
        String code = Pattern.compile("/\\*.*?\\*/|//[^\n]*|\"(?:\\\\.|[^\"\\\\])*\"|'(?:\\\\.|[^'\\\\])'", Pattern.DOTALL)
                .matcher(text).replaceAll(m -> m.group().replaceAll("[^\n]", " "));
        Matcher word = Pattern.compile(FORBIDDEN_WORDS).matcher(code);
        while (word.find()) {
            Check.holds("no '" + word.group() + "' in the source", false);
        }
        Matcher type = Pattern.compile("\\b[A-Z][a-z]\\w*").matcher(code);
        Set<String> own = new TreeSet<>(Set.of("HiveBylaws", "System"));
        for (Class<?> inside : HiveBylaws.class.getDeclaredClasses()) {
            own.add(inside.getSimpleName());
        }
        while (type.find()) {
            Check.holds(type.group() + " is of the program, or the library's System", own.contains(type.group()));
        }
        Matcher system = Pattern.compile("\\bSystem\\.(\\w+)").matcher(code);
        while (system.find()) {
            Check.holds("System." + system.group(1) + " is arraycopy", system.group(1).equals("arraycopy"));
        }
        lengths(code);
    }

    /** Methods stand at a depth of one or two braces; one starts at the line that ends with "{" and has a "(". */
    private static void lengths(String code) {
        String[] lines = code.split("\n");
        for (int i = 0; i < lines.length; i++) {
            Matcher head = Pattern.compile("^( {4}| {8})(?! |if\\b|for\\b|while\\b|switch\\b|return\\b|else\\b)[\\w\\[\\] ]+\\(.*\\{\\s*$").matcher(lines[i]);
            if (!head.matches()) {
                continue;
            }
            int end = i;
            while (end < lines.length && !lines[end].startsWith(head.group(1) + "}")) {
                end++;
            }
            Check.holds("at most sixty lines: " + lines[i].trim() + " has " + (end - i + 1), end - i + 1 <= 60);
        }
    }
}
