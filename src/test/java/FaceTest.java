import java.io.IOException;
import java.lang.reflect.Field;
import java.lang.reflect.Method;
import java.lang.reflect.Modifier;
import java.nio.file.Files;
import java.nio.file.Path;
import java.util.HashSet;
import java.util.List;
import java.util.Set;
import java.util.TreeSet;

/** The public face, and those rules of LANGUAGE.md that can be seen from outside the code. */
public final class FaceTest {
    private static final Path SOURCE = Path.of("src/main/java/LandingFines.java");

    public static void main(String[] args) throws IOException {
        constants();
        methods();
        members();
        classesInside();
        words();
        Due.end("FaceTest");
    }

    private static void yes(String what, boolean so) {
        Due.is(what, so ? 1 : 0, 1);
    }

    private static void constants() {
        Due.is("NO_SUCH", LandingFines.NO_SUCH, -1);
        Due.is("BAD_VALUE", LandingFines.BAD_VALUE, -2);
        Due.is("BAD_TEXT", LandingFines.BAD_TEXT, -3);
        Due.is("TOO_MANY", LandingFines.TOO_MANY, -4);
        Due.is("NOT_POSSIBLE", LandingFines.NOT_POSSIBLE, -5);
        Due.is("NONE", LandingFines.NONE, -6);
        Due.is("CLOSE", LandingFines.CLOSE, 0);
        Due.is("OPEN", LandingFines.OPEN, 1);
        Due.is("TURN", LandingFines.TURN, 2);
        Due.is("HALF", LandingFines.HALF, 3);
        Due.is("ABOVE", LandingFines.ABOVE, 4);
        Due.is("BELOW", LandingFines.BELOW, 5);
        Due.is("LONGEST", LandingFines.LONGEST, 6);
    }

    private static void methods() {
        Set<String> due = new TreeSet<>(List.of(
            "set[int, int]", "landing[int]", "open[int]", "close[int]", "price[int, int]", "pass[int]",
            "of[int, int]", "count[int]", "choice[int]", "log[int, int]",
            "why[int]", "welcomeIn[int]", "mayChange[int]", "fineIn[int, int]", "steady[]",
            "put[long]", "wipe[]", "fault[]", "carryOut[]", "undo[]", "save[int]", "restore[int]"));
        Set<String> found = new TreeSet<>();
        for (Method m : LandingFines.class.getDeclaredMethods()) {
            if (Modifier.isPublic(m.getModifiers())) {
                found.add(m.getName() + List.of(m.getParameterTypes()));
                yes(m + " returns an int, and is not static", m.getReturnType() == int.class
                    && !Modifier.isStatic(m.getModifiers()));
            }
        }
        yes("the public methods are " + found, found.equals(due));
    }

    private static void members() {
        Set<String> names = new HashSet<>();
        for (Method m : LandingFines.class.getDeclaredMethods()) {
            boolean isPublic = Modifier.isPublic(m.getModifiers());
            yes(m + " is public or private", isPublic || Modifier.isPrivate(m.getModifiers()));
            yes(m + " bears a name of its own", names.add(m.getName()));
        }
        int constants = 0;
        for (Field f : LandingFines.class.getDeclaredFields()) {
            if (Modifier.isPublic(f.getModifiers())) {
                constants++;
            } else {
                yes(f + " is private", Modifier.isPrivate(f.getModifiers()));
            }
            yes(f + " is final, if it is static", !Modifier.isStatic(f.getModifiers())
                || Modifier.isFinal(f.getModifiers()));
        }
        Due.is("public constants", constants, 13);
        Due.is("constructors", LandingFines.class.getDeclaredConstructors().length, 1);
        yes("the class is public and final", LandingFines.class.getModifiers() == (Modifier.PUBLIC | Modifier.FINAL));
    }

    private static void classesInside() {
        Class<?>[] inside = LandingFines.class.getDeclaredClasses();
        yes("at most twelve classes", inside.length < 12);
        for (Class<?> c : inside) {
            yes(c + " is static", Modifier.isStatic(c.getModifiers()));
            yes(c + " is not public", !Modifier.isPublic(c.getModifiers()) && !Modifier.isProtected(c.getModifiers()));
            int fields = 0;
            for (Field f : c.getDeclaredFields()) {
                if (!Modifier.isStatic(f.getModifiers())) {
                    fields++;
                }
            }
            yes(c + " has at most twenty fields", fields <= 20);
        }
    }

    private static void words() throws IOException {
        String text = Files.readString(SOURCE);
        for (String word : List.of("throw", "throws", "try", "catch", "synchronized", "assert", "import", "package",
                "instanceof", "System.nanoTime", "Random", "equals", "hashCode", "toString", "Exact")) {
            String code = text.replaceAll("(?s)/\\*.*?\\*/|//[^\n]*", "");
            yes("the code has no " + word, !code.matches("(?s).*\\b" + word.replace(".", "\\.") + "\\b.*"));
        }
        yes("the code has no lambda and no method reference", !text.contains("->") && !text.contains("::"));
        for (int i = 0; i < text.length(); i++) {
            if (text.charAt(i) > 126) {
                yes("character " + i + " is plain", false);
            }
        }
    }
}
