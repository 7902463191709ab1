/** Compares answers with those that are due, and counts them. */
final class Due {
    private static int right = 0;
    private static int wrong = 0;
    private static String head = "";

    private Due() {
    }

    /** What is told ahead of each call from now on. */
    static void head(String text) {
        head = text;
    }

    static int answers() {
        return right + wrong;
    }

    static void is(String call, long got, long want) {
        if (got == want) {
            right++;
        } else {
            wrong++;
            System.out.println(head + call + " answered " + got + ", due is " + want);
        }
    }

    static void same(String call, String got, String want) {
        is(got.equals(want) ? call : call + ": " + got + "is not " + want, got.equals(want) ? 1 : 0, 1);
    }

    static boolean anyWrong() {
        return wrong > 0;
    }

    static void end(String name) {
        System.out.println(name + ": " + right + " answers right, " + wrong + " wrong");
        if (wrong > 0 || right == 0) {
            System.exit(1);
        }
    }

    /** The number that gives a text of at most 8 characters to put(). */
    static long packed(String text) {
        long characters = 0;
        for (int i = 0; i < text.length(); i++) {
            characters = characters << 8 | text.charAt(i);
        }
        return characters;
    }

    /** Empties the pad and writes the text to it. */
    static void write(LandingFines x, String text) {
        x.wipe();
        for (int from = 0; from < text.length(); from += 8) {
            x.put(packed(text.substring(from, Math.min(from + 8, text.length()))));
        }
        is("length of \"" + text + "\"", x.count(14), text.length());
    }
}
