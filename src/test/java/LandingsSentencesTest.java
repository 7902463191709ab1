/** The sentences on landings and on the log, under 'Terms', that name a boundary case. */
public final class LandingsSentencesTest {
    private static final int NO_SUCH = LandingFines.NO_SUCH;
    private static final int BAD_VALUE = LandingFines.BAD_VALUE;
    private static final int TOO_MANY = LandingFines.TOO_MANY;
    private static final int NONE = LandingFines.NONE;
    private static final int CLOSE = LandingFines.CLOSE;
    private static final int OPEN = LandingFines.OPEN;
    private static final int TURN = LandingFines.TURN;
    private static final int HALF = LandingFines.HALF;
    private static final int ABOVE = LandingFines.ABOVE;
    private static final int BELOW = LandingFines.BELOW;
    private static final int LONGEST = LandingFines.LONGEST;

    private static final String SHUNNED =
        "If the fine is above ABOVE then, and the landing is welcome, it is shunned from now on.";
    private static final String HALVED =
        "if that is HALF, or more, its fine becomes half of it, and that counts from 0 again.";
    private static final String WELCOME =
        "if its fine is below BELOW, or it was shunned for LONGEST minutes, or more, it is welcome again;";
    private static final String SWITCH = "A switch is counted each time it is another one (or NONE in place of one, "
        + "or one in place of NONE) behind a change of a landing, a coming or a minute than ahead of it;";
    private static final String LATEST =
        "The log has the latest 20 things that happened, each with its landing and the minute";

    public static void main(String[] args) throws IllegalAccessException {
        Sentences.runAll(LandingsSentencesTest.class);
    }

    @Sentence(of = "Landings", says = "There are up to 8 landings, numbered in the order in which they came")
    static void landingsThereAreUpTo8() {
        LandingFines x = new LandingFines();
        for (int i = 0; i < 8; i++) {
            Due.is("landing " + i, x.landing(100 - i), i);
        }
        Due.is("a ninth", x.landing(1), TOO_MANY);
        Due.is("landings", x.count(1), 8);
        for (int i = 0; i < 8; i++) {
            Due.is("price of " + i, x.of(i, 1), 100 - i);
        }
        Due.is("of(8, 1)", x.of(8, 1), NO_SUCH);
    }

    @Sentence(of = "Landings", says = "with a price (0 to 999)")
    static void landingsAPriceIs0To999() {
        LandingFines x = new LandingFines();
        Due.is("landing(-1)", x.landing(-1), BAD_VALUE);
        Due.is("landing(1000)", x.landing(1000), BAD_VALUE);
        Due.is("landing(0)", x.landing(0), 0);
        Due.is("landing(999)", x.landing(999), 1);
        Due.is("price", x.of(0, 1), 0);
        Due.is("price", x.of(1, 1), 999);
    }

    @Sentence(of = "Landings", says = "a fine (0 at first, 99999 at most)")
    static void landingsAFineIs0AtFirstAnd99999AtMost() {
        LandingFines x = Sentences.river(5);
        Due.is("fine at first", x.of(0, 2), 0);
        x.set(ABOVE, 99999);
        Sentences.fine(x, 0, 99998);
        Due.is("fine", x.of(0, 2), 99998);
        Sentences.fine(x, 0, 1);
        Due.is("fine", x.of(0, 2), 99999);
        Sentences.fine(x, 0, 1);
        Due.is("no more than that", x.of(0, 2), 99999);
    }

    @Sentence(of = "Landings", says = "A change of a landing (it closes, it opens, or, open or closed, "
        + "its price becomes another one) adds its fine, at most up to 99999.")
    static void landingsAChangeAddsItsFineAtMostUpTo99999() {
        LandingFines x = Sentences.river(5);
        x.set(ABOVE, 99999);
        Sentences.fine(x, 0, 90001);
        x.set(CLOSE, 9999);
        x.set(OPEN, 9999);
        x.set(TURN, 9999);
        x.save(0);
        Due.is("close(0)", x.close(0), 99999);
        Due.is("open(0)", x.open(0), 99999);
        Due.is("price(0, 6)", x.price(0, 6), 99999);
        x.restore(0);
        Due.is("price(0, 6)", x.price(0, 6), 99999);
        x.restore(0);
        x.set(CLOSE, 0);
        x.close(0);
        Due.is("fine", x.of(0, 2), 90001);
        Due.is("open(0)", x.open(0), 99999);
    }

    @Sentence(of = "Landings", says = "or, open or closed, its price becomes another one")
    static void landingsThePriceOfAClosedOneIsAChangeToo() {
        LandingFines x = Sentences.river(5);
        x.close(0);
        Due.is("price(0, 6)", x.price(0, 6), 1500);
        Due.is("changes", x.of(0, 6), 2);
        Due.is("still closed", x.of(0, 0), 0);
        Due.is("price(0, 7)", x.price(0, 7), 2000);
        Due.is("price(0, 8)", x.price(0, 8), 2500);
        Due.is("a closed one is shunned", x.of(0, 3), 1);
    }

    @Sentence(of = "Landings", says = SHUNNED)
    static void landingsShunnedIfTheFineIsAboveAbove() {
        LandingFines x = Sentences.river(5);
        x.close(0);
        x.open(0);
        x.close(0);
        Due.is("fine", x.of(0, 2), 2000);
        Due.is("2000 is not above 2000", x.of(0, 3), 0);
        x.set(OPEN, 1);
        x.pass(1);
        Due.is("open(0)", x.open(0), 2001);
        Due.is("2001 is above 2000", x.of(0, 3), 1);
        Due.is("from now on", x.of(0, 4), 0);
        Due.is("times", x.of(0, 7), 1);
        x.pass(1);
        Due.is("one minute", x.of(0, 4), 1);
    }

    @Sentence(of = "Landings", says = SHUNNED)
    static void landingsShunnedByAChangeWithoutAFine() {
        LandingFines x = Sentences.river(5);
        x.close(0);
        x.set(ABOVE, 1000);
        Due.is("1000 is not above 1000", x.open(0), 1000);
        Due.is("welcome", x.of(0, 3), 0);
        x.set(CLOSE, 0);
        x.set(ABOVE, 999);
        Due.is("close(0)", x.close(0), 1000);
        Due.is("1000 is above 999", x.of(0, 3), 1);
    }

    @Sentence(of = "Landings", says = "(One that is shunned already stays so; its time goes on.)")
    static void landingsOneThatIsShunnedAlreadyStaysSo() {
        LandingFines x = Sentences.river(5);
        Sentences.fine(x, 0, 3000);
        x.pass(7);
        x.close(0);
        Due.is("stays shunned", x.of(0, 3), 1);
        Due.is("its time goes on", x.of(0, 4), 7);
        Due.is("times", x.of(0, 7), 1);
        Due.is("no entry of its own", x.log(0, 0), 0);
        x.pass(1);
        Due.is("its time goes on", x.of(0, 4), 8);
        x.set(HALF, 99);
        Due.is("LONGEST is told from the first time", x.welcomeIn(0), 52);
    }

    @Sentence(of = "Landings", says = "it is one minute more since its latest halving (or since it came)")
    static void landingsMinutesSinceTheLatestHalvingOrSinceItCame() {
        LandingFines x = new LandingFines();
        x.pass(9);
        x.landing(5);
        Due.is("since it came", x.of(0, 5), 0);
        x.pass(4);
        x.landing(5);
        x.price(0, 6);
        x.price(1, 6);
        Due.is("a change does not begin anew", x.of(0, 5), 4);
        x.pass(10);
        Due.is("14 since it came", x.of(0, 5), 14);
        Due.is("10 since it came", x.of(1, 5), 10);
        x.pass(1);
        Due.is("halved", x.of(0, 2), 250);
        Due.is("since its halving", x.of(0, 5), 0);
        Due.is("not yet halved", x.of(1, 2), 500);
        Due.is("11 since it came", x.of(1, 5), 11);
    }

    @Sentence(of = "Landings", says = HALVED)
    static void landingsHalvedIfThatIsHalfOrMore() {
        LandingFines x = Sentences.river(5);
        x.pass(5);
        Sentences.fine(x, 0, 1001);
        x.pass(7);
        x.set(HALF, 14);
        x.pass(1);
        Due.is("13 is less than 14", x.of(0, 2), 1001);
        x.save(0);
        x.pass(1);
        Due.is("14 is 14", x.of(0, 2), 500);
        Due.is("from 0 again", x.of(0, 5), 0);
        x.restore(0);
        x.set(HALF, 2);
        Due.is("not at once", x.of(0, 2), 1001);
        x.pass(1);
        Due.is("14 is more than 2: halved once", x.of(0, 2), 500);
        Due.is("from 0 again", x.of(0, 5), 0);
        x.pass(1);
        Due.is("1 is less than 2", x.of(0, 2), 500);
        x.pass(1);
        Due.is("2 is 2", x.of(0, 2), 250);
    }

    @Sentence(of = "Landings", says = HALVED)
    static void landingsAFineOf0IsHalvedToo() {
        LandingFines x = Sentences.river(5);
        x.pass(14);
        Due.is("minutes since its halving", x.of(0, 5), 14);
        x.pass(1);
        Due.is("minutes since its halving", x.of(0, 5), 0);
        Due.is("fine", x.of(0, 2), 0);
    }

    @Sentence(of = "Landings", says = "When a minute passes, for each landing by its number")
    static void landingsAMinutePassesForEachLandingByItsNumber() {
        LandingFines x = Sentences.river(1, 2, 3, 4, 5, 6, 7, 8);
        x.set(CLOSE, 2500);
        for (int i = 7; i >= 0; i--) {
            x.close(i);
        }
        Due.is("closed ones become welcome, too", x.pass(30), 8);
        for (int i = 0; i < 8; i++) {
            Due.is("log(" + (7 - i) + ", 1)", x.log(7 - i, 1), i);
            Due.is("fine of " + i, x.of(i, 2), 625);
        }
    }

    @Sentence(of = "Landings", says = WELCOME)
    static void landingsWelcomeAgainIfItsFineIsBelowBelow() {
        LandingFines x = Sentences.river(5, 5);
        Sentences.fine(x, 0, 3000);
        Sentences.fine(x, 1, 2999);
        Due.is("pass(29)", x.pass(29), 0);
        Due.is("29 minutes shunned", x.of(0, 4), 29);
        Due.is("2999 becomes 749 in this minute", x.pass(1), 1);
        Due.is("750 is not below 750", x.of(0, 3), 1);
        Due.is("749 is below 750", x.of(1, 3), 0);
        Due.is("fine", x.of(0, 2), 750);
        Due.is("fine", x.of(1, 2), 749);
        Due.is("30 minutes shunned", x.of(0, 4), 30);
    }

    @Sentence(of = "Landings", says = WELCOME)
    static void landingsWelcomeAgainBehindLongestMinutesOrMore() {
        LandingFines x = Sentences.river(5);
        x.set(HALF, 99);
        Sentences.fine(x, 0, 3000);
        Due.is("59 minutes", x.pass(59), 0);
        x.save(0);
        Due.is("60 minutes", x.pass(1), 1);
        x.restore(0);
        x.set(LONGEST, 3);
        Due.is("not at once", x.of(0, 3), 1);
        Due.is("60 are more than 3", x.pass(1), 1);
        Due.is("welcome", x.of(0, 4), 0);
        x.restore(0);
        x.set(LONGEST, 61);
        Due.is("60 are less than 61", x.pass(1), 0);
    }

    @Sentence(of = "Landings", says = "in the latter case, if the fine is not below BELOW, it becomes BELOW less 1.")
    static void landingsInTheLatterCaseTheFineBecomesBelowLess1() {
        LandingFines x = Sentences.river(5);
        x.set(HALF, 99);
        Sentences.fine(x, 0, 3000);
        x.pass(59);
        x.save(0);
        x.pass(1);
        Due.is("750 less 1", x.of(0, 2), 749);
        x.restore(0);
        x.set(BELOW, 3000);
        x.pass(1);
        Due.is("3000 less 1", x.of(0, 2), 2999);
        x.restore(0);
        x.set(BELOW, 3001);
        x.pass(1);
        Due.is("3000 is below 3001 and stays", x.of(0, 2), 3000);
        x.restore(0);
        x.set(BELOW, 1);
        x.pass(1);
        Due.is("1 less 1", x.of(0, 2), 0);
        x.restore(0);
        x.set(HALF, 60);
        x.set(BELOW, 2000);
        Due.is("fine halved in the last minute", x.pass(1), 1);
        Due.is("1500 is below 2000 and stays", x.of(0, 2), 1500);
    }

    @Sentence(of = "Landings", says = "A landing can be taken if it is open and welcome. The one that is taken is "
        + "that of these with the least price, of several the lowest one")
    static void landingsTheLeastPriceIsTakenOfSeveralTheLowestOne() {
        LandingFines x = Sentences.river(9, 7, 7, 8);
        Due.is("the lowest one of price 7", x.count(4), 1);
        x.close(1);
        Due.is("the other one of price 7", x.count(4), 2);
        Sentences.fine(x, 2, 3000);
        Due.is("that of price 8", x.count(4), 3);
        x.price(0, 8);
        Due.is("the lowest one of price 8", x.count(4), 0);
        x.price(0, 0);
        Due.is("a price of 0", x.count(4), 0);
    }

    @Sentence(of = "Landings", says = "of several the lowest one; NONE if there is none.")
    static void landingsNoneIsTakenIfThereIsNone() {
        LandingFines x = new LandingFines();
        Due.is("without landings", x.count(4), NONE);
        x.landing(5);
        x.close(0);
        Due.is("one that is closed", x.count(4), NONE);
        x.landing(6);
        Sentences.fine(x, 1, 3000);
        Due.is("and one that is shunned", x.count(4), NONE);
    }

    @Sentence(of = "Landings", says = SWITCH)
    static void landingsSwitchesByAComing() {
        LandingFines x = new LandingFines();
        x.pass(1);
        Due.is("none in place of none", x.count(5), 0);
        x.landing(5);
        Due.is("one in place of NONE", x.count(5), 1);
        x.landing(6);
        Due.is("a dearer one", x.count(5), 1);
        x.landing(5);
        Due.is("an equal one", x.count(5), 1);
        x.landing(4);
        Due.is("a cheaper one", x.count(5), 2);
    }

    @Sentence(of = "Landings", says = SWITCH)
    static void landingsSwitchesByAChange() {
        LandingFines x = Sentences.river(5);
        x.close(0);
        Due.is("NONE in place of one", x.count(5), 2);
        x.price(0, 4);
        Due.is("NONE as before", x.count(5), 2);
        x.open(0);
        Due.is("one in place of NONE", x.count(5), 3);
        x.landing(6);
        x.price(1, 7);
        x.price(1, 4);
        Due.is("the same one as before", x.count(5), 3);
        x.price(1, 3);
        Due.is("another one", x.count(5), 4);
        x.close(1);
        Due.is("another one", x.count(5), 5);
        x.price(1, 0);
        Due.is("the same one, as the cheapest one is closed", x.count(5), 5);
    }

    @Sentence(of = "Landings", says = SWITCH)
    static void landingsNoSwitchByOneThatBecomesCheaperAndShunned() {
        LandingFines x = Sentences.river(5, 6);
        x.set(TURN, 3000);
        x.price(1, 4);
        Due.is("shunned", x.count(3), 2);
        Due.is("taken", x.count(4), 0);
        Due.is("no switch there and back", x.count(5), 1);
        x.price(0, 3);
        Due.is("NONE in place of one", x.count(5), 2);
    }

    @Sentence(of = "Landings", says = SWITCH)
    static void landingsSwitchesByAMinute() {
        LandingFines x = Sentences.river(5, 4, 3);
        x.set(HALF, 99);
        Sentences.fine(x, 0, 3000);
        Sentences.fine(x, 1, 3000);
        x.save(0);
        Sentences.fine(x, 2, 3000);
        Due.is("switches", x.count(5), 4);
        Due.is("pass(60)", x.pass(60), 3);
        Due.is("all three in one minute: one switch", x.count(5), 5);
        Due.is("taken", x.count(4), 2);
        x.restore(0);
        x.pass(1);
        Sentences.fine(x, 2, 3000);
        Due.is("switches", x.count(5), 4);
        Due.is("pass(60)", x.pass(60), 3);
        Due.is("two, and one in the next minute: two switches", x.count(5), 6);
        Due.is("taken", x.count(4), 2);
    }

    @Sentence(of = "Landings", says = SWITCH)
    static void landingsNoSwitchByAMinuteThatLeavesTheSameOne() {
        LandingFines x = Sentences.river(5, 5);
        Sentences.fine(x, 1, 3000);
        Due.is("switches", x.count(5), 1);
        Due.is("pass(60)", x.pass(60), 1);
        Due.is("an equal one with a higher number", x.count(5), 1);
    }

    @Sentence(of = "Landings", says = "set(), undo() and restore() count none.")
    static void landingsSetUndoAndRestoreCountNone() {
        LandingFines x = Sentences.river(5, 4);
        x.save(0);
        x.close(1);
        Due.is("switches", x.count(5), 3);
        x.set(ABOVE, 1);
        x.set(BELOW, 99999);
        Due.is("set() counts none", x.count(5), 3);
        x.undo();
        x.undo();
        x.undo();
        Due.is("undo() brings the count back", x.count(5), 2);
        Due.is("taken", x.count(4), 1);
        x.close(1);
        x.close(0);
        Due.is("switches", x.count(5), 4);
        x.restore(0);
        Due.is("restore() brings the count back", x.count(5), 2);
        Due.is("taken", x.count(4), 1);
        x.price(1, 3);
        Due.is("the one that is restored is the one ahead", x.count(5), 2);
    }

    @Sentence(of = "Log", says = LATEST)
    static void logHasTheLatest20Things() {
        LandingFines x = Sentences.river(0);
        x.set(TURN, 0);
        for (int i = 1; i <= 19; i++) {
            x.pass(1);
            x.price(0, i);
        }
        Due.is("entries", x.count(6), 19);
        Due.is("log(18, 2)", x.log(18, 2), 1);
        Due.is("log(19, 2)", x.log(19, 2), NO_SUCH);
        x.pass(1);
        x.price(0, 20);
        Due.is("entries", x.count(6), 20);
        Due.is("log(19, 2)", x.log(19, 2), 1);
        Due.is("log(20, 2)", x.log(20, 2), NO_SUCH);
        x.pass(1);
        x.price(0, 21);
        Due.is("entries", x.count(6), 20);
        Due.is("log(0, 2)", x.log(0, 2), 21);
        Due.is("log(19, 2)", x.log(19, 2), 2);
        Due.is("log(20, 2)", x.log(20, 2), NO_SUCH);
    }

    @Sentence(of = "Log", says = LATEST)
    static void logDropsTheOldestWhenTwoComeAtOnce() {
        LandingFines x = Sentences.river(0);
        x.set(TURN, 0);
        for (int i = 1; i <= 19; i++) {
            x.pass(1);
            x.price(0, i);
        }
        x.set(TURN, 9000);
        x.price(0, 20);
        Due.is("entries", x.count(6), 20);
        Due.is("the latest", x.log(0, 0), 3);
        Due.is("the one before", x.log(1, 0), 2);
        Due.is("the oldest", x.log(19, 2), 2);
        for (int i = 21; i <= 60; i++) {
            x.price(0, i);
        }
        Due.is("entries", x.count(6), 20);
        Due.is("the oldest", x.log(19, 0), 2);
    }

    @Sentence(of = "Log",
        says = "the minute (how many there were; of what happens in a minute that passes, that one too)")
    static void logTheMinuteThatPassesToo() {
        LandingFines x = Sentences.river(5);
        x.close(0);
        Due.is("ahead of the first minute", x.log(0, 2), 0);
        x.set(LONGEST, 1);
        x.set(ABOVE, 1);
        x.open(0);
        x.pass(1);
        Due.is("welcome again", x.log(0, 0), 4);
        Due.is("in the first minute", x.log(0, 2), 1);
        x.close(0);
        Due.is("behind the first minute", x.log(0, 2), 1);
        Sentences.passLong(x, 99997);
        x.open(0);
        x.close(0);
        Due.is("shunned", x.log(0, 0), 3);
        Due.is("ahead of the last minute", x.log(0, 2), 99998);
        x.pass(1);
        Due.is("welcome again", x.log(0, 0), 4);
        Due.is("in the last minute", x.log(0, 2), 99999);
        x.price(0, 6);
        Due.is("behind the last minute", x.log(0, 2), 99999);
    }

    @Sentence(of = "Log", says = "closed (0), opened (1), price (2), shunned (3; behind what it came by), "
        + "welcome again (4).")
    static void logShunnedIsBehindWhatItCameBy() {
        LandingFines x = Sentences.river(5, 5, 5);
        x.set(ABOVE, 499);
        x.close(0);
        x.price(1, 6);
        x.set(CLOSE, 0);
        x.set(OPEN, 500);
        x.close(2);
        x.open(2);
        x.pass(60);
        int[] sorts = {4, 4, 4, 3, 1, 0, 3, 2, 3, 0};
        int[] landings = {0, 2, 1, 2, 2, 2, 1, 1, 0, 0};
        Due.is("entries", x.count(6), sorts.length);
        for (int ago = 0; ago < sorts.length; ago++) {
            Due.is("log(" + ago + ", 0)", x.log(ago, 0), sorts[ago]);
            Due.is("log(" + ago + ", 1)", x.log(ago, 1), landings[ago]);
        }
    }

    @Sentence(of = "Log", says = LATEST)
    static void logHasNoComingAndNoRefusedCall() {
        LandingFines x = Sentences.river(5);
        x.set(CLOSE, 1);
        x.pass(20);
        x.open(0);
        x.price(0, 5);
        x.save(0);
        x.restore(0);
        x.undo();
        Due.is("entries", x.count(6), 0);
        Due.is("log(0, 0)", x.log(0, 0), NO_SUCH);
    }
}
