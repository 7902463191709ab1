/** Promises 8 to 11: of, count, choice, log. */
public final class QuestionsTest {
    private static final int NO_SUCH = LandingFines.NO_SUCH;
    private static final int BAD_VALUE = LandingFines.BAD_VALUE;
    private static final int NONE = LandingFines.NONE;

    public static void main(String[] args) {
        of();
        count();
        choice();
        log();
        logIsFull();
        eightLandings();
        Due.end("QuestionsTest");
    }

    private static void of() {
        LandingFines x = new LandingFines();
        x.landing(11);
        x.landing(12);
        x.close(1);
        x.price(1, 13);
        x.open(1);
        x.close(1);
        x.pass(7);
        int[] second = {0, 13, 2500, 1, 7, 7, 4, 1};
        int[] first = {1, 11, 0, 0, 0, 7, 0, 0};
        for (int what = 0; what < 8; what++) {
            Due.is("of(1, " + what + ")", x.of(1, what), second[what]);
            Due.is("of(0, " + what + ")", x.of(0, what), first[what]);
        }
        Due.is("of(0, 8)", x.of(0, 8), BAD_VALUE);
        Due.is("of(0, -1)", x.of(0, -1), BAD_VALUE);
        Due.is("of(2, 0)", x.of(2, 0), NO_SUCH);
        Due.is("of(2, 9)", x.of(2, 9), NO_SUCH);
        Due.is("of(-1, 0)", x.of(-1, 0), NO_SUCH);
        Due.is("of(MAX, MAX)", x.of(Integer.MAX_VALUE, Integer.MAX_VALUE), NO_SUCH);
        Due.is("of(0, MIN)", x.of(0, Integer.MIN_VALUE), BAD_VALUE);
    }

    private static void count() {
        LandingFines x = new LandingFines();
        x.landing(11);
        x.landing(12);
        x.landing(13);
        x.set(LandingFines.CLOSE, 3000);
        x.close(1);
        x.close(2);
        x.open(2);
        x.pass(2);
        x.put('+');
        int[] due = {2, 3, 5, 6, 0, 1, 5, 3000, 0, 500, 15, 2000, 750, 60, 1, 6};
        for (int what = 0; what < due.length; what++) {
            Due.is("count(" + what + ")", x.count(what), due[what]);
        }
        Due.is("count(16)", x.count(16), BAD_VALUE);
        Due.is("count(-1)", x.count(-1), BAD_VALUE);
        Due.is("count(MAX)", x.count(Integer.MAX_VALUE), BAD_VALUE);
        Due.is("count(MIN)", x.count(Integer.MIN_VALUE), BAD_VALUE);
        x.close(0);
        Due.is("count(4)", x.count(4), NONE);
        for (int i = 3; i < 8; i++) {
            x.landing(1);
        }
        Due.is("all but three open", x.count(2), 0xfc);
    }

    private static void choice() {
        LandingFines x = new LandingFines();
        int[] prices = {5, 3, 5, 9, 3, 0, 1};
        for (int price : prices) {
            x.landing(price);
        }
        x.close(5);
        x.set(LandingFines.TURN, 9000);
        x.price(6, 2);
        int[] due = {1, 4, 0, 2, 3, NO_SUCH, NO_SUCH};
        for (int rank = 0; rank < due.length; rank++) {
            Due.is("choice(" + rank + ")", x.choice(rank), due[rank]);
        }
        Due.is("choice(-1)", x.choice(-1), NO_SUCH);
        Due.is("choice(MAX)", x.choice(Integer.MAX_VALUE), NO_SUCH);
        Due.is("choice(MIN)", x.choice(Integer.MIN_VALUE), NO_SUCH);
        Due.is("the first one is taken", x.count(4), 1);
    }

    private static void log() {
        LandingFines x = new LandingFines();
        x.landing(1);
        x.landing(2);
        x.pass(5);
        x.close(1);
        x.pass(1);
        x.price(0, 3);
        Due.is("log(0, 0)", x.log(0, 0), 2);
        Due.is("log(0, 1)", x.log(0, 1), 0);
        Due.is("log(0, 2)", x.log(0, 2), 6);
        Due.is("log(1, 0)", x.log(1, 0), 0);
        Due.is("log(1, 1)", x.log(1, 1), 1);
        Due.is("log(1, 2)", x.log(1, 2), 5);
        Due.is("log(2, 0)", x.log(2, 0), NO_SUCH);
        Due.is("log(2, 3)", x.log(2, 3), NO_SUCH);
        Due.is("log(-1, 0)", x.log(-1, 0), NO_SUCH);
        Due.is("log(0, 3)", x.log(0, 3), BAD_VALUE);
        Due.is("log(0, -1)", x.log(0, -1), BAD_VALUE);
        Due.is("log(MAX, 0)", x.log(Integer.MAX_VALUE, 0), NO_SUCH);
        Due.is("log(MIN, 0)", x.log(Integer.MIN_VALUE, 0), NO_SUCH);
    }

    private static void logIsFull() {
        LandingFines x = new LandingFines();
        x.set(LandingFines.TURN, 0);
        x.landing(0);
        for (int i = 1; i <= 47; i++) {
            x.pass(1);
            x.price(0, i);
            Due.is("entries", x.count(6), Math.min(i, 20));
            Due.is("the latest one", x.log(0, 2), i);
        }
        for (int ago = 0; ago < 20; ago++) {
            Due.is("log(" + ago + ", 2)", x.log(ago, 2), 47 - ago);
        }
        Due.is("log(20, 2)", x.log(20, 2), NO_SUCH);
    }

    private static void eightLandings() {
        LandingFines x = new LandingFines();
        x.set(LandingFines.CLOSE, 3000);
        for (int i = 0; i < 8; i++) {
            x.landing(7 - i);
        }
        for (int rank = 0; rank < 8; rank++) {
            Due.is("choice(" + rank + ")", x.choice(rank), 7 - rank);
        }
        Due.is("choice(8)", x.choice(8), NO_SUCH);
        for (int i = 0; i < 8; i++) {
            x.close(i);
        }
        Due.is("none is open", x.count(2), 0);
        Due.is("all are shunned", x.count(3), 255);
        for (int i = 0; i < 8; i++) {
            x.open(i);
        }
        Due.is("all are open", x.count(2), 255);
        Due.is("none is taken", x.count(4), NONE);
        Due.is("all become welcome again", x.pass(60), 8);
        Due.is("the last one is taken", x.count(4), 7);
        Due.is("none is shunned", x.count(3), 0);
    }
}
