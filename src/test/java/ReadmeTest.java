import java.io.IOException;
import java.lang.reflect.Field;
import java.lang.reflect.Method;
import java.lang.reflect.Modifier;
import java.nio.file.Files;
import java.nio.file.Path;
import java.util.regex.Matcher;
import java.util.regex.Pattern;

/** README.md: its example answers what it says there, and no call and no constant is left out. */
public final class ReadmeTest {
    private static final Path README = Path.of("README.md");
    private static final String FIRST_LINE = "LandingFines river = new LandingFines();";
    private static final Pattern CALL =
        Pattern.compile("river\\.(\\w+)\\(([^)]*)\\); +// (-?\\d+|[A-Z_]+)(?:: .+)?");

    public static void main(String[] args) throws IOException, ReflectiveOperationException {
        String text = Files.readString(README);
        example(text);
        names(text);
        settings(text);
        Due.end("ReadmeTest");
    }

    private static void example(String text) throws ReflectiveOperationException {
        Matcher block = Pattern.compile("(?s)```java\n(.*?)```").matcher(text);
        Due.is("an example stands in README.md", block.find() ? 1 : 0, 1);
        String[] lines = block.group(1).split("\n");
        Due.same("the example's first line", lines[0], FIRST_LINE);
        LandingFines river = new LandingFines();
        for (int i = 1; i < lines.length; i++) {
            Matcher call = CALL.matcher(lines[i]);
            if (call.matches()) {
                Due.is(lines[i], answer(river, call.group(1), call.group(2)), number(call.group(3)));
            } else {
                Due.is("lines of the example that are no call: " + lines[i], 1, 0);
            }
        }
    }

    private static int answer(LandingFines river, String name, String words) throws ReflectiveOperationException {
        String[] values = words.isEmpty() ? new String[0] : words.split(", ");
        for (Method method : LandingFines.class.getMethods()) {
            if (method.getDeclaringClass() == LandingFines.class && method.getName().equals(name)) {
                Object[] given = new Object[values.length];
                for (int i = 0; i < values.length; i++) {
                    long value = number(values[i]);
                    given[i] = method.getParameterTypes()[i] == long.class ? (Object) value : (Object) (int) value;
                }
                return (int) method.invoke(river, given);
            }
        }
        throw new NoSuchMethodException(name);
    }

    /** A number as it is written in Java, or the value of a constant, with its class or without it. */
    private static long number(String word) throws ReflectiveOperationException {
        if (Character.isUpperCase(word.charAt(0))) {
            return LandingFines.class.getField(word.substring(word.indexOf('.') + 1)).getInt(null);
        }
        return Long.decode(word.endsWith("L") ? word.substring(0, word.length() - 1) : word);
    }

    private static void names(String text) throws ReflectiveOperationException {
        for (Method method : LandingFines.class.getDeclaredMethods()) {
            if (Modifier.isPublic(method.getModifiers())) {
                String row = "\n| `" + method.getName() + "(";
                Due.is("a row tells of " + method.getName() + "()", text.contains(row) ? 1 : 0, 1);
            }
        }
        for (Field field : LandingFines.class.getFields()) {
            String named = "`" + field.getName() + "` (" + field.getInt(null) + ")";
            Due.is("README.md has " + named, text.contains(named) ? 1 : 0, 1);
        }
    }

    /** The first values that the table of settings tells, one behind the other. */
    private static void settings(String text) {
        LandingFines river = new LandingFines();
        StringBuilder told = new StringBuilder();
        StringBuilder due = new StringBuilder();
        Matcher row = Pattern.compile("\n\\| `[A-Z]+` \\(\\d\\)[^|]*\\| (\\d+) to (\\d+) \\| ([0-9, ]+) \\|").matcher(text);
        int setting = 0;
        while (row.find()) {
            for (String first : row.group(3).split(", ")) {
                told.append(first).append(' ');
                due.append(river.count(7 + setting)).append(' ');
                range(setting, Integer.parseInt(row.group(1)), Integer.parseInt(row.group(2)));
                setting++;
            }
        }
        Due.is("settings that README.md tells", setting, 7);
        Due.same("first values of the settings", told.toString(), due.toString());
    }

    private static void range(int setting, int least, int most) {
        LandingFines river = new LandingFines();
        int first = river.count(7 + setting);
        Due.is("setting " + setting + " below its range", river.set(setting, least - 1), LandingFines.BAD_VALUE);
        Due.is("setting " + setting + " above its range", river.set(setting, most + 1), LandingFines.BAD_VALUE);
        Due.is("setting " + setting + " at its least", river.set(setting, least), first);
        Due.is("setting " + setting + " at its most", river.set(setting, most), least);
    }
}
