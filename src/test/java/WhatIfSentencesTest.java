/** The sentences of promises 12 to 16 that name a boundary case: what if. */
public final class WhatIfSentencesTest {
    private static final int NO_SUCH = LandingFines.NO_SUCH;
    private static final int BAD_VALUE = LandingFines.BAD_VALUE;
    private static final int NOT_POSSIBLE = LandingFines.NOT_POSSIBLE;
    private static final int NONE = LandingFines.NONE;
    private static final int CLOSE = LandingFines.CLOSE;
    private static final int OPEN = LandingFines.OPEN;
    private static final int TURN = LandingFines.TURN;
    private static final int HALF = LandingFines.HALF;
    private static final int ABOVE = LandingFines.ABOVE;
    private static final int BELOW = LandingFines.BELOW;
    private static final int LONGEST = LandingFines.LONGEST;
    private static final int LEAST = Integer.MIN_VALUE;
    private static final int MOST = Integer.MAX_VALUE;

    public static void main(String[] args) throws IllegalAccessException {
        Sentences.runAll(WhatIfSentencesTest.class);
    }

    @Sentence(of = "The public face", says = "what if; nothing changes (the bound of minutes does not matter).")
    static void whatIfNothingChanges() {
        LandingFines x = Sentences.river(5, 6);
        Sentences.fine(x, 0, 3000);
        x.close(0);
        x.pass(3);
        x.put('+');
        x.save(0);
        String before = Sentences.state(x);
        for (int landing = -1; landing <= 2; landing++) {
            x.why(landing);
            x.welcomeIn(landing);
            x.mayChange(landing);
            x.fineIn(landing, 0);
            x.fineIn(landing, 999);
            x.fineIn(landing, 1000);
        }
        x.steady();
        Due.same("the state", Sentences.state(x), before);
        Due.is("the pad", x.count(14), 1);
        Due.is("the history", x.count(15), 6);
        x.restore(0);
        Due.same("the slot", Sentences.state(x), before);
    }

    @Sentence(of = "The public face", says = "what if; nothing changes (the bound of minutes does not matter).")
    static void whatIfTheBoundOfMinutesDoesNotMatter() {
        LandingFines x = Sentences.river(5);
        Sentences.passLong(x, 99999);
        Due.is("minutes since the latest halving", x.of(0, 5), 9);
        Sentences.fine(x, 0, 6000);
        Due.is("pass(1)", x.pass(1), NOT_POSSIBLE);
        Due.is("welcomeIn(0)", x.welcomeIn(0), 51);
        Due.is("fineIn(0, 6)", x.fineIn(0, 6), 3000);
        Due.is("fineIn(0, 51)", x.fineIn(0, 51), 375);
        Due.is("fineIn(0, 999)", x.fineIn(0, 999), 0);
        Due.is("steady()", x.steady(), 8);
        Due.is("minutes", x.count(0), 99999);
    }

    @Sentence(of = "Promise 12", says = "Returns 0: it is;")
    static void promise12ItIs() {
        LandingFines x = Sentences.river(5, 5);
        Due.is("why(0)", x.why(0), 0);
        x.close(0);
        Due.is("why(1)", x.why(1), 0);
        x.open(0);
        Due.is("why(0)", x.why(0), 0);
    }

    @Sentence(of = "Promise 12", says = "the first of these that is so: 1 it is closed; 2 it is shunned; "
        + "3 another one is taken;")
    static void promise12TheFirstOfTheseThatIsSo() {
        LandingFines x = Sentences.river(5, 5);
        Due.is("another one is taken", x.why(1), 3);
        x.close(1);
        Due.is("closed, and another one is taken", x.why(1), 1);
        x.set(ABOVE, 1);
        x.price(1, 0);
        Due.is("closed and shunned", x.why(1), 1);
        x.open(1);
        Due.is("shunned, though the cheapest", x.why(1), 2);
        x.close(0);
        Due.is("closed, and none is taken", x.why(0), 1);
        Due.is("shunned, and none is taken", x.why(1), 2);
        Due.is("taken", x.count(4), NONE);
    }

    @Sentence(of = "Promise 12", says = "NO_SUCH if there is no such landing.")
    static void promise12NoSuchIfThereIsNoSuchLanding() {
        LandingFines x = new LandingFines();
        Due.is("why(0)", x.why(0), NO_SUCH);
        Due.is("why(NONE)", x.why(NONE), NO_SUCH);
        x.landing(5);
        Due.is("why(-1)", x.why(-1), NO_SUCH);
        Due.is("why(1)", x.why(1), NO_SUCH);
        Due.is("why(8)", x.why(8), NO_SUCH);
        Due.is("why(MIN)", x.why(LEAST), NO_SUCH);
        Due.is("why(MAX)", x.why(MOST), NO_SUCH);
    }

    @Sentence(of = "Promise 13",
        says = "Tells in how many minutes a landing is welcome again, if nothing else is done.")
    static void promise13ByItsFine() {
        LandingFines x = Sentences.river(5, 5);
        Sentences.fine(x, 0, 3000);
        Sentences.fine(x, 1, 2999);
        Due.is("750 is not below 750", x.welcomeIn(0), 45);
        Due.is("749 is below 750", x.welcomeIn(1), 30);
        x.pass(29);
        Due.is("welcomeIn(1)", x.welcomeIn(1), 1);
        x.set(BELOW, 99999);
        Due.is("below already", x.welcomeIn(0), 1);
        Due.is("pass(1)", x.pass(1), 2);
        Due.is("welcome", x.welcomeIn(1), 0);
    }

    @Sentence(of = "Promise 13",
        says = "Tells in how many minutes a landing is welcome again, if nothing else is done.")
    static void promise13ByLongest() {
        LandingFines x = Sentences.river(5);
        x.set(HALF, 99);
        x.set(BELOW, 1);
        Sentences.fine(x, 0, 20000);
        Due.is("by LONGEST", x.welcomeIn(0), 60);
        x.set(LONGEST, 999);
        Due.is("by the greatest LONGEST", x.welcomeIn(0), 999);
        x.pass(998);
        Due.is("the last minute", x.welcomeIn(0), 1);
        x.set(LONGEST, 1);
        Due.is("shunned for longer than LONGEST", x.welcomeIn(0), 1);
        Due.is("pass(1)", x.pass(1), 1);
        Due.is("welcome", x.welcomeIn(0), 0);
    }

    @Sentence(of = "Promise 13", says = "Returns how many (0 if it is welcome); NO_SUCH if there is no such landing.")
    static void promise13ZeroIfItIsWelcome() {
        LandingFines x = Sentences.river(5);
        Due.is("never fined", x.welcomeIn(0), 0);
        x.close(0);
        Due.is("closed and welcome", x.welcomeIn(0), 0);
        x.set(ABOVE, 1);
        Due.is("above ABOVE and welcome", x.welcomeIn(0), 0);
    }

    @Sentence(of = "Promise 13", says = "Returns how many (0 if it is welcome); NO_SUCH if there is no such landing.")
    static void promise13NoSuchIfThereIsNoSuchLanding() {
        LandingFines x = new LandingFines();
        Due.is("welcomeIn(0)", x.welcomeIn(0), NO_SUCH);
        x.landing(5);
        Due.is("welcomeIn(-1)", x.welcomeIn(-1), NO_SUCH);
        Due.is("welcomeIn(1)", x.welcomeIn(1), NO_SUCH);
        Due.is("welcomeIn(8)", x.welcomeIn(8), NO_SUCH);
        Due.is("welcomeIn(MIN)", x.welcomeIn(LEAST), NO_SUCH);
        Due.is("welcomeIn(MAX)", x.welcomeIn(MOST), NO_SUCH);
    }

    @Sentence(of = "Promise 14", says = "Tells how many times more a landing could close and open (by turns, "
        + "as it is now, without time going by) until it is shunned.")
    static void promise14ByTurnsAsItIsNow() {
        LandingFines x = Sentences.river(5);
        Due.is("1000, 1000, 2000, 2000, 3000", x.mayChange(0), 5);
        x.close(0);
        Due.is("1000, 2000, 2000, 3000", x.mayChange(0), 4);
        x.set(OPEN, 1000);
        Due.is("2000, 3000", x.mayChange(0), 2);
        x.open(0);
        Due.is("3000", x.mayChange(0), 1);
        x.pass(15);
        Due.is("2000, 3000", x.mayChange(0), 2);
        Due.is("closing alone", x.close(0), 2000);
        Due.is("not shunned", x.of(0, 3), 0);
    }

    @Sentence(of = "Promise 14", says = "Returns how many changes it makes, the one by which it is shunned too "
        + "(0 if it is shunned);")
    static void promise14TheOneByWhichItIsShunnedToo() {
        LandingFines x = Sentences.river(5);
        x.set(CLOSE, 2000);
        Due.is("2000 is not above 2000", x.mayChange(0), 3);
        x.set(CLOSE, 2001);
        Due.is("2001 is above 2000", x.mayChange(0), 1);
        x.close(0);
        Due.is("shunned", x.mayChange(0), 0);
        x.pass(60);
        x.set(ABOVE, 1);
        Due.is("above ABOVE already, by a change without a fine", x.mayChange(0), 1);
    }

    @Sentence(of = "Promise 14", says = "NO_SUCH if there is no such landing; NONE if it takes more than 100.")
    static void promise14NoSuchIfThereIsNoSuchLanding() {
        LandingFines x = new LandingFines();
        Due.is("mayChange(0)", x.mayChange(0), NO_SUCH);
        x.landing(5);
        Due.is("mayChange(-1)", x.mayChange(-1), NO_SUCH);
        Due.is("mayChange(1)", x.mayChange(1), NO_SUCH);
        Due.is("mayChange(8)", x.mayChange(8), NO_SUCH);
        Due.is("mayChange(MIN)", x.mayChange(LEAST), NO_SUCH);
        Due.is("mayChange(MAX)", x.mayChange(MOST), NO_SUCH);
    }

    @Sentence(of = "Promise 14", says = "NONE if it takes more than 100.")
    static void promise14NoneIfItTakesMoreThan100() {
        LandingFines x = Sentences.river(5);
        x.set(CLOSE, 20);
        x.set(OPEN, 20);
        x.set(ABOVE, 1979);
        Due.is("99 changes", x.mayChange(0), 99);
        x.set(ABOVE, 1999);
        Due.is("100 changes", x.mayChange(0), 100);
        x.set(ABOVE, 2000);
        Due.is("101 changes", x.mayChange(0), NONE);
        x.set(CLOSE, 0);
        x.set(OPEN, 0);
        Due.is("never", x.mayChange(0), NONE);
        x.set(CLOSE, 9999);
        x.set(OPEN, 9999);
        x.set(ABOVE, 99998);
        Due.is("99999 is above 99998", x.mayChange(0), 11);
        x.set(ABOVE, 99999);
        Due.is("never, as no fine is above 99999", x.mayChange(0), NONE);
    }

    @Sentence(of = "Promise 15",
        says = "Tells which fine a landing would have in some minutes, if nothing else is done.")
    static void promise15TheFineAtEachEdge() {
        LandingFines x = Sentences.river(5);
        x.pass(4);
        x.set(TURN, 1999);
        x.price(0, 6);
        Due.is("in 0 minutes", x.fineIn(0, 0), 1999);
        Due.is("in 10 minutes", x.fineIn(0, 10), 1999);
        Due.is("in 11 minutes", x.fineIn(0, 11), 999);
        Due.is("in 25 minutes", x.fineIn(0, 25), 999);
        Due.is("in 26 minutes", x.fineIn(0, 26), 499);
        Due.is("in 11 + 9 * 15 minutes", x.fineIn(0, 146), 1);
        Due.is("in 11 + 10 * 15 minutes", x.fineIn(0, 161), 0);
        x.set(HALF, 3);
        Due.is("in 1 minute, as 5 is more than 3", x.fineIn(0, 1), 999);
        Due.is("in 3 minutes", x.fineIn(0, 3), 999);
        Due.is("in 4 minutes", x.fineIn(0, 4), 499);
    }

    @Sentence(of = "Promise 15",
        says = "Tells which fine a landing would have in some minutes, if nothing else is done.")
    static void promise15BelowLess1BehindLongest() {
        LandingFines x = Sentences.river(5);
        x.set(HALF, 70);
        Sentences.fine(x, 0, 9000);
        Due.is("shunned", x.fineIn(0, 59), 9000);
        Due.is("welcome again", x.fineIn(0, 60), 749);
        Due.is("ahead of its halving", x.fineIn(0, 69), 749);
        Due.is("halved", x.fineIn(0, 70), 374);
        Due.is("halved twice", x.fineIn(0, 140), 187);
    }

    @Sentence(of = "Promise 15", says = "NO_SUCH if there is no such landing; BAD_VALUE if minutes is out of range.")
    static void promise15NoSuchIfThereIsNoSuchLanding() {
        LandingFines x = new LandingFines();
        Due.is("fineIn(0, 0)", x.fineIn(0, 0), NO_SUCH);
        x.landing(5);
        Due.is("fineIn(-1, 0)", x.fineIn(-1, 0), NO_SUCH);
        Due.is("fineIn(1, 0)", x.fineIn(1, 0), NO_SUCH);
        Due.is("fineIn(8, 0)", x.fineIn(8, 0), NO_SUCH);
        Due.is("fineIn(MIN, 0)", x.fineIn(LEAST, 0), NO_SUCH);
        Due.is("fineIn(MAX, 0)", x.fineIn(MOST, 0), NO_SUCH);
        Due.is("fineIn(1, 1000)", x.fineIn(1, 1000), NO_SUCH);
    }

    @Sentence(of = "Promise 15", says = "BAD_VALUE if minutes is out of range.")
    static void promise15BadValueIfMinutesIsOutOfRange() {
        LandingFines x = Sentences.river(5);
        x.price(0, 6);
        Due.is("fineIn(0, -1)", x.fineIn(0, -1), BAD_VALUE);
        Due.is("fineIn(0, 0)", x.fineIn(0, 0), 500);
        Due.is("fineIn(0, 1000)", x.fineIn(0, 1000), BAD_VALUE);
        Due.is("fineIn(0, MIN)", x.fineIn(0, LEAST), BAD_VALUE);
        Due.is("fineIn(0, MAX)", x.fineIn(0, MOST), BAD_VALUE);
        x.set(HALF, 99);
        x.set(TURN, 9999);
        for (int i = 10; i < 20; i++) {
            x.price(0, i);
        }
        x.set(LONGEST, 999);
        x.set(BELOW, 1);
        Due.is("fineIn(0, 998)", x.fineIn(0, 998), 97);
        Due.is("fineIn(0, 999)", x.fineIn(0, 999), 0);
    }

    @Sentence(of = "Promise 16", says = "the least m, 0 to 200, with which a new landing is never shunned "
        + "if it closes, m minutes pass, it opens, m minutes pass, and so on, 40 times both.")
    static void promise16TheLeastM0To200() {
        LandingFines x = new LandingFines();
        steadyIs(x, 0, 0, 1, 1, 0);
        steadyIs(x, 1000, 0, 1000, 40, 200);
        steadyIs(x, 2, 0, 2, 99, 99);
        steadyIs(x, 2000, 0, 2000, 1, 6);
        Due.is("the first values", new LandingFines().steady(), 8);
    }

    @Sentence(of = "Promise 16",
        says = "it closes, m minutes pass, it opens, m minutes pass, and so on, 40 times both.")
    static void promise16FortyTimesBoth() {
        LandingFines x = new LandingFines();
        x.set(CLOSE, 25);
        x.set(OPEN, 25);
        Due.is("80 changes make 2000, which is not above 2000", x.steady(), 0);
        x.set(ABOVE, 1999);
        Due.is("the eightieth makes more than 1999", x.steady(), 1);
        x.set(CLOSE, 0);
        x.set(OPEN, 50);
        Due.is("the fortieth opening makes more than 1999", x.steady(), 1);
        x.set(ABOVE, 2000);
        Due.is("40 openings make 2000", x.steady(), 0);
        x.set(CLOSE, 50);
        x.set(OPEN, 0);
        Due.is("40 closings make 2000", x.steady(), 0);
    }

    @Sentence(of = "Promise 16", says = "with which a new landing is never shunned if it closes, m minutes pass,")
    static void promise16ANewLandingHasNoFineAndNoMinutes() {
        LandingFines x = Sentences.river(1, 2, 3, 4, 5, 6, 7, 8);
        for (int i = 0; i < 8; i++) {
            Sentences.fine(x, i, 1990);
        }
        x.pass(14);
        Due.is("whatever landings there are", x.steady(), 8);
    }

    @Sentence(of = "Promise 16", says = "Returns the minutes; NONE if 200 are too few.")
    static void promise16NoneIf200AreTooFew() {
        LandingFines x = new LandingFines();
        steadyIs(x, 63, 0, 63, 66, 198);
        steadyIs(x, 63, 0, 63, 67, NONE);
        steadyIs(x, 2001, 0, 2000, 1, NONE);
        steadyIs(x, 0, 2001, 2000, 1, NONE);
        steadyIs(x, 9999, 9999, 9998, 1, NONE);
        steadyIs(x, 9999, 9999, 99999, 99, 0);
    }

    private static void steadyIs(LandingFines x, int close, int open, int above, int half, int want) {
        x.set(CLOSE, close);
        x.set(OPEN, open);
        x.set(ABOVE, above);
        x.set(HALF, half);
        Due.is("steady() with " + close + ", " + open + ", " + above + ", " + half, x.steady(), want);
    }
}
