/** Promises 12 to 16: why, welcomeIn, mayChange, fineIn, steady. */
public final class WhatIfTest {
    private static final int NO_SUCH = LandingFines.NO_SUCH;
    private static final int BAD_VALUE = LandingFines.BAD_VALUE;
    private static final int NONE = LandingFines.NONE;

    public static void main(String[] args) {
        why();
        welcomeIn();
        mayChange();
        fineIn();
        steady();
        steadyIsTheLeast();
        nothingChanges();
        Due.end("WhatIfTest");
    }

    private static void why() {
        LandingFines x = new LandingFines();
        Due.is("why(0)", x.why(0), NO_SUCH);
        x.set(LandingFines.CLOSE, 3000);
        for (int i = 0; i < 4; i++) {
            x.landing(5);
        }
        Due.is("why(0)", x.why(0), 0);
        Due.is("why(3)", x.why(3), 3);
        x.close(0);
        Due.is("closed and shunned", x.why(0), 1);
        Due.is("taken", x.why(1), 0);
        x.open(0);
        Due.is("shunned", x.why(0), 2);
        x.set(LandingFines.CLOSE, 1);
        x.close(3);
        Due.is("closed", x.why(3), 1);
        Due.is("why(4)", x.why(4), NO_SUCH);
        Due.is("why(-1)", x.why(-1), NO_SUCH);
    }

    private static void welcomeIn() {
        LandingFines x = new LandingFines();
        x.landing(5);
        Due.is("welcome", x.welcomeIn(0), 0);
        Due.is("welcomeIn(1)", x.welcomeIn(1), NO_SUCH);
        Due.is("welcomeIn(-1)", x.welcomeIn(-1), NO_SUCH);
        x.set(LandingFines.TURN, 2999);
        x.price(0, 6);
        Due.is("by fading", x.welcomeIn(0), 30);
        x.pass(29);
        Due.is("by fading", x.welcomeIn(0), 1);
        x.set(LandingFines.HALF, 99);
        Due.is("by LONGEST", x.welcomeIn(0), 31);
        x.set(LandingFines.LONGEST, 29);
        Due.is("in the next minute at the latest", x.welcomeIn(0), 1);
        x.set(LandingFines.LONGEST, 1);
        Due.is("in the next minute at the latest", x.welcomeIn(0), 1);
        Due.is("pass(1)", x.pass(1), 1);
        x.set(LandingFines.LONGEST, 999);
        x.set(LandingFines.BELOW, 1);
        x.set(LandingFines.TURN, 9999);
        for (int i = 10; i < 30; i++) {
            x.price(0, i);
        }
        Due.is("the longest of all", x.welcomeIn(0), 999);
        x.pass(998);
        Due.is("still shunned", x.of(0, 3), 1);
        Due.is("pass(1)", x.pass(1), 1);
    }

    private static void mayChange() {
        LandingFines x = new LandingFines();
        x.landing(5);
        Due.is("mayChange(1)", x.mayChange(1), NO_SUCH);
        Due.is("mayChange(-1)", x.mayChange(-1), NO_SUCH);
        Due.is("1000, 1000, 2000, 2000, 3000", x.mayChange(0), 5);
        x.close(0);
        Due.is("a closed one opens first", x.mayChange(0), 4);
        x.set(LandingFines.OPEN, 1001);
        Due.is("one suffices", x.mayChange(0), 1);
        x.set(LandingFines.OPEN, 0);
        x.set(LandingFines.CLOSE, 0);
        Due.is("never", x.mayChange(0), NONE);
        x.set(LandingFines.ABOVE, 1);
        Due.is("above already", x.mayChange(0), 1);
        x.open(0);
        Due.is("shunned", x.mayChange(0), 0);

        LandingFines y = new LandingFines();
        y.landing(5);
        y.set(LandingFines.CLOSE, 10);
        y.set(LandingFines.OPEN, 10);
        y.set(LandingFines.ABOVE, 999);
        Due.is("exactly 100", y.mayChange(0), 100);
        y.set(LandingFines.ABOVE, 1000);
        Due.is("101 are too many", y.mayChange(0), NONE);
    }

    private static void fineIn() {
        LandingFines x = new LandingFines();
        x.landing(5);
        Due.is("fineIn(1, 0)", x.fineIn(1, 0), NO_SUCH);
        Due.is("fineIn(-1, -1)", x.fineIn(-1, -1), NO_SUCH);
        Due.is("fineIn(0, -1)", x.fineIn(0, -1), BAD_VALUE);
        Due.is("fineIn(0, 1000)", x.fineIn(0, 1000), BAD_VALUE);
        x.set(LandingFines.TURN, 1999);
        x.price(0, 6);
        Due.is("fineIn(0, 0)", x.fineIn(0, 0), 1999);
        Due.is("fineIn(0, 14)", x.fineIn(0, 14), 1999);
        Due.is("fineIn(0, 15)", x.fineIn(0, 15), 999);
        Due.is("fineIn(0, 29)", x.fineIn(0, 29), 999);
        Due.is("fineIn(0, 30)", x.fineIn(0, 30), 499);
        Due.is("fineIn(0, 999)", x.fineIn(0, 999), 0);
        x.price(0, 7);
        x.set(LandingFines.LONGEST, 4);
        Due.is("shunned", x.fineIn(0, 3), 3998);
        Due.is("welcome again", x.fineIn(0, 4), 749);
        Due.is("and fading", x.fineIn(0, 15), 374);
    }

    private static void steady() {
        LandingFines x = new LandingFines();
        Due.is("steady()", x.steady(), 8);
        x.set(LandingFines.CLOSE, 2001);
        Due.is("too high a fine", x.steady(), NONE);
        x.set(LandingFines.CLOSE, 2000);
        Due.is("one that may not grow", x.steady(), 83);
        x.set(LandingFines.CLOSE, 1000);
        x.set(LandingFines.ABOVE, 1000);
        x.set(LandingFines.HALF, 40);
        Due.is("ten halvings of 40 minutes", x.steady(), 200);
        x.set(LandingFines.CLOSE, 63);
        x.set(LandingFines.ABOVE, 63);
        x.set(LandingFines.HALF, 67);
        Due.is("201 would be enough", x.steady(), NONE);
        x.set(LandingFines.ABOVE, 2000);
        x.set(LandingFines.HALF, 15);
        x.set(LandingFines.CLOSE, 25);
        x.set(LandingFines.OPEN, 25);
        Due.is("80 times 25 is not above 2000", x.steady(), 0);
        x.set(LandingFines.OPEN, 26);
        Due.is("40 times 51 is", x.steady(), 1);
        x.set(LandingFines.HALF, 99);
        x.set(LandingFines.OPEN, 1000);
        x.set(LandingFines.CLOSE, 1000);
        Due.is("each halving but the first is a little behind a change", x.steady(), 98);
        x.set(LandingFines.ABOVE, 99999);
        x.set(LandingFines.OPEN, 9999);
        x.set(LandingFines.CLOSE, 9999);
        Due.is("no fine is above 99999", x.steady(), 0);
    }

    /** Tells by real calls on new objects what steady() tells. */
    private static void steadyIsTheLeast() {
        int[][] settings = {
            {1000, 0, 15, 2000}, {300, 700, 99, 1000}, {999, 1, 60, 1003}, {1500, 1500, 7, 2000},
            {1, 0, 99, 1}, {0, 1, 98, 1}, {3, 3, 1, 3}, {7, 0, 99, 7}, {9999, 9999, 50, 12000}, {40, 60, 33, 101},
        };
        for (int[] s : settings) {
            int least = NONE;
            for (int minutes = 0; minutes <= 200 && least == NONE; minutes++) {
                if (neverShunned(s, minutes)) {
                    least = minutes;
                }
            }
            Due.is("steady() as by real calls", prepared(s).steady(), least);
        }
    }

    private static LandingFines prepared(int[] s) {
        LandingFines x = new LandingFines();
        x.set(LandingFines.CLOSE, s[0]);
        x.set(LandingFines.OPEN, s[1]);
        x.set(LandingFines.HALF, s[2]);
        x.set(LandingFines.ABOVE, s[3]);
        return x;
    }

    private static boolean neverShunned(int[] s, int minutes) {
        LandingFines x = prepared(s);
        x.landing(5);
        for (int i = 0; i < 40; i++) {
            x.close(0);
            if (minutes > 0) {
                x.pass(minutes);
            }
            x.open(0);
            if (minutes > 0) {
                x.pass(minutes);
            }
        }
        return x.of(0, 7) == 0;
    }

    private static void nothingChanges() {
        LandingFines x = new LandingFines();
        x.landing(5);
        x.set(LandingFines.TURN, 3000);
        x.price(0, 6);
        x.pass(3);
        int[] due = {1, 6, 3000, 1, 3, 3, 1, 1};
        x.why(0);
        x.welcomeIn(0);
        x.mayChange(0);
        x.fineIn(0, 500);
        x.steady();
        for (int what = 0; what < due.length; what++) {
            Due.is("of(0, " + what + ")", x.of(0, what), due[what]);
        }
        int[] counts = {3, 1, 1, 1, NONE, 2, 2, 1000, 0, 3000, 15, 2000, 750, 60, 0, 4};
        for (int what = 0; what < counts.length; what++) {
            Due.is("count(" + what + ")", x.count(what), counts[what]);
        }
    }
}
