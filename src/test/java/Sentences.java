import java.lang.reflect.InvocationTargetException;
import java.lang.reflect.Method;
import java.util.Map;
import java.util.TreeMap;

/** Runs the tests of sentences, each for itself, and makes the rivers that they start with. */
final class Sentences {
    private Sentences() {
    }

    /** Runs every method of the class that is marked with a sentence. */
    static void runAll(Class<?> tests) throws IllegalAccessException {
        // In the order of their names, because the machine names methods in no order.
        Map<String, Method> methods = new TreeMap<>();
        for (Method method : tests.getDeclaredMethods()) {
            if (method.isAnnotationPresent(Sentence.class)) {
                methods.put(method.getName(), method);
            } else if (method.getParameterCount() == 0 && method.getReturnType() == void.class) {
                Due.is(method.getName() + " has no sentence and is not run", 1, 0);
            }
        }
        for (Method method : methods.values()) {
            runOne(method);
        }
        System.out.println(tests.getSimpleName() + ": " + methods.size() + " sentences");
        Due.end(tests.getSimpleName());
    }

    private static void runOne(Method method) throws IllegalAccessException {
        Sentence sentence = method.getAnnotation(Sentence.class);
        Due.head(method.getName() + " (" + sentence.of() + ": \"" + sentence.says() + "\"): ");
        int before = Due.answers();
        try {
            method.invoke(null);
        } catch (InvocationTargetException e) {
            Due.is("calls that threw " + e.getCause(), 1, 0);
        }
        if (Due.answers() == before) {
            Due.is("answers that were compared", 0, 1);
        }
        Due.head("");
    }

    /** A river with one landing for each price. */
    static LandingFines river(int... prices) {
        LandingFines x = new LandingFines();
        for (int price : prices) {
            x.landing(price);
        }
        return x;
    }

    /** Fines an open landing by closing and opening it; CLOSE and OPEN are their first values behind that. */
    static void fine(LandingFines x, int landing, int more) {
        x.set(LandingFines.OPEN, 0);
        for (int left = more; left > 0; left -= 9999) {
            x.set(LandingFines.CLOSE, Math.min(left, 9999));
            x.close(landing);
            x.open(landing);
        }
        x.set(LandingFines.CLOSE, 1000);
    }

    /** Lets minutes pass, more than one pass() can. */
    static void passLong(LandingFines x, int minutes) {
        for (int left = minutes; left > 0; left -= 999) {
            x.pass(Math.min(left, 999));
        }
    }

    /** All answers about what undo() and restore() bring back. */
    static String state(LandingFines x) {
        StringBuilder all = new StringBuilder();
        for (int what = 0; what <= 13; what++) {
            all.append(x.count(what)).append(' ');
        }
        int landings = x.count(1);
        for (int landing = 0; landing < landings; landing++) {
            for (int what = 0; what <= 7; what++) {
                all.append(x.of(landing, what)).append(' ');
            }
        }
        int entries = x.count(6);
        for (int ago = 0; ago < entries; ago++) {
            for (int what = 0; what <= 2; what++) {
                all.append(x.log(ago, what)).append(' ');
            }
        }
        return all.toString();
    }
}
