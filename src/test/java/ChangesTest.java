/** Promises 1 to 7: a new object, set, landing, open, close, price, pass. */
public final class ChangesTest {
    private static final int NO_SUCH = LandingFines.NO_SUCH;
    private static final int BAD_VALUE = LandingFines.BAD_VALUE;
    private static final int TOO_MANY = LandingFines.TOO_MANY;
    private static final int NOT_POSSIBLE = LandingFines.NOT_POSSIBLE;
    private static final int NONE = LandingFines.NONE;

    public static void main(String[] args) {
        newObject();
        set();
        setShunsNobody();
        landing();
        openAndClose();
        price();
        shunning();
        fineHasAMost();
        passFades();
        passWelcomes();
        passWelcomesAfterLongest();
        passCountsSwitchesByMinute();
        passHasABound();
        errorsChangeNothing();
        Due.end("ChangesTest");
    }

    private static void newObject() {
        LandingFines x = new LandingFines();
        int[] counts = {0, 0, 0, 0, NONE, 0, 0, 1000, 0, 500, 15, 2000, 750, 60, 0, 0};
        for (int what = 0; what < counts.length; what++) {
            Due.is("new: count(" + what + ")", x.count(what), counts[what]);
        }
        Due.is("new: of(0, 0)", x.of(0, 0), NO_SUCH);
        Due.is("new: log(0, 0)", x.log(0, 0), NO_SUCH);
        Due.is("new: choice(0)", x.choice(0), NO_SUCH);
        Due.is("new: undo()", x.undo(), NOT_POSSIBLE);
        Due.is("new: restore(0)", x.restore(0), NOT_POSSIBLE);
        Due.is("new: restore(1)", x.restore(1), NOT_POSSIBLE);
        Due.is("new: wipe()", x.wipe(), 0);
    }

    private static void set() {
        int[] first = {1000, 0, 500, 15, 2000, 750, 60};
        int[] least = {0, 0, 0, 1, 1, 1, 1};
        int[] most = {9999, 9999, 9999, 99, 99999, 99999, 999};
        LandingFines x = new LandingFines();
        for (int s = 0; s < 7; s++) {
            Due.is("set(" + s + ", too little)", x.set(s, least[s] - 1), BAD_VALUE);
            Due.is("set(" + s + ", too much)", x.set(s, most[s] + 1), BAD_VALUE);
            Due.is("count behind errors", x.count(7 + s), first[s]);
            Due.is("set(" + s + ", least)", x.set(s, least[s]), first[s]);
            Due.is("set(" + s + ", most)", x.set(s, most[s]), least[s]);
            Due.is("count(" + (7 + s) + ")", x.count(7 + s), most[s]);
        }
        Due.is("set(-1, 5)", x.set(-1, 5), BAD_VALUE);
        Due.is("set(7, 5)", x.set(7, 5), BAD_VALUE);
        Due.is("set(MIN, 5)", x.set(Integer.MIN_VALUE, 5), BAD_VALUE);
        Due.is("set(MAX, 5)", x.set(Integer.MAX_VALUE, 5), BAD_VALUE);
        Due.is("set(0, MIN)", x.set(0, Integer.MIN_VALUE), BAD_VALUE);
        Due.is("set(0, MAX)", x.set(0, Integer.MAX_VALUE), BAD_VALUE);
    }

    private static void setShunsNobody() {
        LandingFines x = new LandingFines();
        x.landing(1);
        x.close(0);
        Due.is("set(ABOVE, 1)", x.set(LandingFines.ABOVE, 1), 2000);
        Due.is("still welcome", x.of(0, 3), 0);
        Due.is("open(0)", x.open(0), 1000);
        Due.is("shunned by a change without a fine", x.of(0, 3), 1);
        Due.is("set(BELOW, 99999)", x.set(LandingFines.BELOW, 99999), 750);
        Due.is("still shunned", x.of(0, 3), 1);
        Due.is("set(LONGEST, 1)", x.set(LandingFines.LONGEST, 1), 60);
        Due.is("shunned as before", x.count(3), 1);
        Due.is("switches behind set()", x.count(5), 2);
    }

    private static void landing() {
        LandingFines x = new LandingFines();
        Due.is("landing(-1)", x.landing(-1), BAD_VALUE);
        Due.is("landing(1000)", x.landing(1000), BAD_VALUE);
        Due.is("landing(999)", x.landing(999), 0);
        Due.is("taken", x.count(4), 0);
        Due.is("switch by a coming", x.count(5), 1);
        Due.is("landing(999)", x.landing(999), 1);
        Due.is("no switch by an equal price", x.count(5), 1);
        Due.is("landing(0)", x.landing(0), 2);
        Due.is("switch to the cheaper one", x.count(5), 2);
        for (int i = 3; i < 8; i++) {
            Due.is("landing(5)", x.landing(5), i);
        }
        Due.is("a ninth", x.landing(5), TOO_MANY);
        Due.is("a ninth of a bad price", x.landing(1000), BAD_VALUE);
        int[] fresh = {1, 5, 0, 0, 0, 0, 0, 0};
        for (int what = 0; what < fresh.length; what++) {
            Due.is("of(7, " + what + ")", x.of(7, what), fresh[what]);
        }
        Due.is("a coming is not logged", x.count(6), 0);
        Due.is("landings", x.count(1), 8);
    }

    private static void openAndClose() {
        LandingFines x = new LandingFines();
        Due.is("open(0)", x.open(0), NO_SUCH);
        Due.is("close(0)", x.close(0), NO_SUCH);
        x.landing(1);
        x.set(LandingFines.OPEN, 30);
        Due.is("open(-1)", x.open(-1), NO_SUCH);
        Due.is("close(-1)", x.close(-1), NO_SUCH);
        Due.is("open(MAX)", x.open(Integer.MAX_VALUE), NO_SUCH);
        Due.is("close(MIN)", x.close(Integer.MIN_VALUE), NO_SUCH);
        Due.is("open(0), open", x.open(0), NOT_POSSIBLE);
        Due.is("close(0)", x.close(0), 1000);
        Due.is("close(0), closed", x.close(0), NOT_POSSIBLE);
        Due.is("taken", x.count(4), NONE);
        Due.is("a switch to none", x.count(5), 2);
        Due.is("open(0)", x.open(0), 1030);
        Due.is("taken", x.count(4), 0);
        Due.is("a switch from none", x.count(5), 3);
        Due.is("changes", x.of(0, 6), 2);
        Due.is("log: opened", x.log(0, 0), 1);
        Due.is("log: closed", x.log(1, 0), 0);
    }

    private static void price() {
        LandingFines x = new LandingFines();
        x.landing(5);
        Due.is("price(1, 5)", x.price(1, 5), NO_SUCH);
        Due.is("price(-1, 1000)", x.price(-1, 1000), NO_SUCH);
        Due.is("price(0, 1000)", x.price(0, 1000), BAD_VALUE);
        Due.is("price(0, -1)", x.price(0, -1), BAD_VALUE);
        Due.is("price(0, 5)", x.price(0, 5), NOT_POSSIBLE);
        Due.is("price(0, 999)", x.price(0, 999), 500);
        Due.is("its price", x.of(0, 1), 999);
        Due.is("log: price", x.log(0, 0), 2);
        x.close(0);
        Due.is("price of a closed one", x.price(0, 0), 2000);
        Due.is("still closed", x.of(0, 0), 0);
        Due.is("changes", x.of(0, 6), 3);
        x.landing(3);
        Due.is("taken", x.count(4), 1);
    }

    private static void shunning() {
        LandingFines x = new LandingFines();
        x.landing(5);
        x.set(LandingFines.TURN, 2000);
        x.price(0, 6);
        Due.is("a fine of ABOVE shuns not", x.of(0, 3), 0);
        x.set(LandingFines.TURN, 1);
        Due.is("price(0, 7)", x.price(0, 7), 2001);
        Due.is("a fine above ABOVE shuns", x.of(0, 3), 1);
        Due.is("times shunned", x.of(0, 7), 1);
        Due.is("log: shunned is behind", x.log(0, 0), 3);
        Due.is("log: what it came by", x.log(1, 0), 2);
        Due.is("taken", x.count(4), NONE);
        x.pass(4);
        x.price(0, 8);
        Due.is("its time goes on", x.of(0, 4), 4);
        Due.is("not shunned once more", x.of(0, 7), 1);
        Due.is("log: price alone", x.log(0, 0), 2);
    }

    private static void fineHasAMost() {
        LandingFines x = new LandingFines();
        x.landing(5);
        x.set(LandingFines.ABOVE, 99999);
        x.set(LandingFines.TURN, 9999);
        for (int i = 0; i < 10; i++) {
            Due.is("price", x.price(0, 10 + i), 9999 * (i + 1));
        }
        Due.is("price at the most", x.price(0, 100), 99999);
        Due.is("price at the most", x.price(0, 101), 99999);
        Due.is("not above 99999", x.of(0, 3), 0);
    }

    private static void passFades() {
        LandingFines x = new LandingFines();
        Due.is("pass(0)", x.pass(0), BAD_VALUE);
        Due.is("pass(-1)", x.pass(-1), BAD_VALUE);
        Due.is("pass(1000)", x.pass(1000), BAD_VALUE);
        Due.is("pass(3) without landings", x.pass(3), 0);
        x.landing(5);
        x.set(LandingFines.TURN, 333);
        x.pass(10);
        x.price(0, 6);
        Due.is("pass(4)", x.pass(4), 0);
        Due.is("14 minutes since it came", x.of(0, 5), 14);
        Due.is("not yet faded", x.of(0, 2), 333);
        x.pass(1);
        Due.is("half of it, rounded down", x.of(0, 2), 166);
        Due.is("from 0 again", x.of(0, 5), 0);
        x.pass(29);
        Due.is("once more", x.of(0, 2), 83);
        Due.is("29 less 15", x.of(0, 5), 14);
        x.set(LandingFines.HALF, 3);
        x.pass(1);
        Due.is("only once, though 15 is 5 times 3", x.of(0, 2), 41);
        Due.is("from 0 again", x.of(0, 5), 0);
        Due.is("minutes", x.count(0), 48);
    }

    private static void passWelcomes() {
        LandingFines x = new LandingFines();
        x.landing(5);
        x.set(LandingFines.TURN, 3000);
        x.price(0, 6);
        Due.is("pass(44)", x.pass(44), 0);
        Due.is("750 is not below 750: shunned", x.of(0, 3), 1);
        Due.is("fine", x.of(0, 2), 750);
        Due.is("minutes shunned", x.of(0, 4), 44);
        Due.is("pass(1)", x.pass(1), 1);
        Due.is("welcome", x.of(0, 3), 0);
        Due.is("fine", x.of(0, 2), 375);
        Due.is("minutes shunned", x.of(0, 4), 0);
        Due.is("times shunned", x.of(0, 7), 1);
        Due.is("log: welcome again", x.log(0, 0), 4);
        Due.is("log: which", x.log(0, 1), 0);
        Due.is("log: in that minute", x.log(0, 2), 45);
        Due.is("taken again", x.count(4), 0);
        x.set(LandingFines.BELOW, 99999);
        x.price(0, 7);
        Due.is("welcome in the next minute, though above ABOVE", x.pass(1), 1);
        Due.is("fine", x.of(0, 2), 3375);
        Due.is("not shunned by a minute", x.pass(5), 0);
        Due.is("welcome", x.of(0, 3), 0);
    }

    private static void passWelcomesAfterLongest() {
        LandingFines x = new LandingFines();
        x.set(LandingFines.LONGEST, 10);
        x.set(LandingFines.TURN, 5000);
        x.landing(5);
        x.price(0, 6);
        Due.is("pass(9)", x.pass(9), 0);
        Due.is("pass(1)", x.pass(1), 1);
        Due.is("BELOW less 1", x.of(0, 2), 749);
        x.price(0, 7);
        Due.is("shunned from then on", x.of(0, 4), 0);
        x.pass(4);
        x.set(LandingFines.LONGEST, 2);
        Due.is("shunned for longer than LONGEST", x.of(0, 4), 4);
        Due.is("pass(1)", x.pass(1), 1);
        Due.is("BELOW less 1", x.of(0, 2), 749);
        x.set(LandingFines.LONGEST, 1);
        x.set(LandingFines.BELOW, 1);
        x.set(LandingFines.ABOVE, 1);
        x.price(0, 8);
        Due.is("pass(1)", x.pass(1), 1);
        Due.is("1 less 1", x.of(0, 2), 0);
        x.set(LandingFines.BELOW, 9000);
        x.price(0, 9);
        x.pass(1);
        Due.is("below BELOW: the fine stays", x.of(0, 2), 5000);
    }

    private static void passCountsSwitchesByMinute() {
        LandingFines x = new LandingFines();
        x.set(LandingFines.TURN, 5000);
        x.landing(9);
        x.landing(8);
        x.landing(7);
        Due.is("switches", x.count(5), 3);
        x.price(0, 3);
        x.price(1, 2);
        x.price(2, 1);
        Due.is("taken", x.count(4), NONE);
        Due.is("switches", x.count(5), 4);
        Due.is("all three in the same minute", x.pass(999), 3);
        Due.is("log: by their numbers", x.log(0, 1), 2);
        Due.is("log: by their numbers", x.log(1, 1), 1);
        Due.is("log: by their numbers", x.log(2, 1), 0);
        Due.is("log: the minute", x.log(2, 2), x.log(0, 2));
        Due.is("one switch a minute", x.count(5), 5);
        Due.is("taken", x.count(4), 2);
    }

    private static void passHasABound() {
        LandingFines x = new LandingFines();
        for (int i = 0; i < 100; i++) {
            Due.is("pass(999)", x.pass(999), 0);
        }
        Due.is("minutes", x.count(0), 99900);
        Due.is("pass(100)", x.pass(100), NOT_POSSIBLE);
        Due.is("pass(1000)", x.pass(1000), BAD_VALUE);
        Due.is("pass(99)", x.pass(99), 0);
        Due.is("minutes", x.count(0), 99999);
        Due.is("pass(1)", x.pass(1), NOT_POSSIBLE);
        x.set(LandingFines.TURN, 9000);
        x.landing(4);
        x.price(0, 5);
        Due.is("fineIn past the bound", x.fineIn(0, 15), 4500);
        Due.is("welcomeIn past the bound", x.welcomeIn(0), 60);
    }

    private static void errorsChangeNothing() {
        LandingFines x = new LandingFines();
        x.landing(4);
        int[] before = new int[16];
        for (int what = 0; what < 16; what++) {
            before[what] = x.count(what);
        }
        x.set(7, 1);
        x.set(0, -1);
        x.landing(1000);
        x.open(0);
        x.open(3);
        x.close(3);
        x.price(0, 4);
        x.price(0, -1);
        x.price(3, 4);
        x.pass(0);
        x.restore(0);
        x.restore(7);
        x.carryOut();
        x.put(0);
        for (int what = 0; what < 16; what++) {
            Due.is("behind errors: count(" + what + ")", x.count(what), before[what]);
        }
    }
}
