/** The sentences of promises 1 to 7 that name a boundary case: a new object, and the changes. */
public final class ChangesSentencesTest {
    private static final int NO_SUCH = LandingFines.NO_SUCH;
    private static final int BAD_VALUE = LandingFines.BAD_VALUE;
    private static final int BAD_TEXT = LandingFines.BAD_TEXT;
    private static final int TOO_MANY = LandingFines.TOO_MANY;
    private static final int NOT_POSSIBLE = LandingFines.NOT_POSSIBLE;
    private static final int NONE = LandingFines.NONE;
    private static final int CLOSE = LandingFines.CLOSE;
    private static final int OPEN = LandingFines.OPEN;
    private static final int TURN = LandingFines.TURN;
    private static final int HALF = LandingFines.HALF;
    private static final int ABOVE = LandingFines.ABOVE;
    private static final int BELOW = LandingFines.BELOW;
    private static final int LONGEST = LandingFines.LONGEST;
    private static final int LEAST = Integer.MIN_VALUE;
    private static final int MOST = Integer.MAX_VALUE;

    public static void main(String[] args) throws IllegalAccessException {
        Sentences.runAll(ChangesSentencesTest.class);
    }

    @Sentence(of = "Promise 1", says = "Creates a river without landings.")
    static void promise01CreatesARiverWithoutLandings() {
        LandingFines x = new LandingFines();
        int[] counts = {0, 0, 0, 0, NONE, 0, 0, 1000, 0, 500, 15, 2000, 750, 60, 0, 0, BAD_VALUE};
        for (int what = 0; what < counts.length; what++) {
            Due.is("count(" + what + ")", x.count(what), counts[what]);
        }
        Due.is("open(0)", x.open(0), NO_SUCH);
        Due.is("close(0)", x.close(0), NO_SUCH);
        Due.is("price(0, 0)", x.price(0, 0), NO_SUCH);
        Due.is("of(0, 0)", x.of(0, 0), NO_SUCH);
        Due.is("choice(0)", x.choice(0), NO_SUCH);
        Due.is("log(0, 0)", x.log(0, 0), NO_SUCH);
        Due.is("why(0)", x.why(0), NO_SUCH);
        Due.is("welcomeIn(0)", x.welcomeIn(0), NO_SUCH);
        Due.is("mayChange(0)", x.mayChange(0), NO_SUCH);
        Due.is("fineIn(0, 0)", x.fineIn(0, 0), NO_SUCH);
        Due.is("steady()", x.steady(), 8);
        Due.is("fault()", x.fault(), 0);
        Due.is("carryOut()", x.carryOut(), BAD_TEXT);
        Due.is("wipe()", x.wipe(), 0);
        Due.is("undo()", x.undo(), NOT_POSSIBLE);
        Due.is("restore(0)", x.restore(0), NOT_POSSIBLE);
        Due.is("restore(1)", x.restore(1), NOT_POSSIBLE);
        Due.is("save(0)", x.save(0), 0);
    }

    @Sentence(of = "Promise 1", says = "Creates a river without landings.")
    static void promise01TwoRiversHaveNothingInCommon() {
        LandingFines x = new LandingFines();
        LandingFines y = new LandingFines();
        x.landing(5);
        x.set(CLOSE, 1);
        x.close(0);
        x.save(0);
        x.put('+');
        Due.same("the other river", Sentences.state(y), Sentences.state(new LandingFines()));
        Due.is("its pad", y.count(14), 0);
        Due.is("its history", y.count(15), 0);
        Due.is("its slot", y.restore(0), NOT_POSSIBLE);
    }

    @Sentence(of = "Promise 2", says = "(no landing is shunned or welcome by that at once)")
    static void promise02NoLandingIsShunnedOrWelcomeByThatAtOnce() {
        LandingFines x = Sentences.river(5, 5);
        x.close(0);
        Sentences.fine(x, 1, 3000);
        x.pass(5);
        x.set(ABOVE, 1);
        Due.is("welcome, though above ABOVE", x.count(3), 2);
        x.set(BELOW, 99999);
        Due.is("shunned, though below BELOW", x.count(3), 2);
        x.set(LONGEST, 1);
        Due.is("shunned, though for longer than LONGEST", x.count(3), 2);
        x.set(HALF, 1);
        Due.is("not faded", x.of(1, 2), 3000);
        Due.is("taken", x.count(4), NONE);
        Due.is("a minute welcomes the shunned one", x.pass(1), 1);
        Due.is("and shuns none", x.count(3), 0);
    }

    @Sentence(of = "Promise 2", says = "This is a change.")
    static void promise02SetIsAChange() {
        LandingFines x = new LandingFines();
        x.set(CLOSE, 1);
        Due.is("can be undone", x.count(15), 1);
        x.set(CLOSE, 1);
        Due.is("can be undone, though nothing is different", x.count(15), 2);
        x.set(CLOSE, -1);
        x.set(7, 1);
        Due.is("an error is no change", x.count(15), 2);
        x.undo();
        Due.is("CLOSE", x.count(7), 1);
        x.undo();
        Due.is("CLOSE", x.count(7), 1000);
    }

    @Sentence(of = "Promise 2", says = "Returns the previous value;")
    static void promise02ReturnsThePreviousValue() {
        LandingFines x = new LandingFines();
        int[] first = {1000, 0, 500, 15, 2000, 750, 60};
        for (int setting = 0; setting < 7; setting++) {
            Due.is("set(" + setting + ", 9)", x.set(setting, 9), first[setting]);
            Due.is("set(" + setting + ", 9)", x.set(setting, 9), 9);
        }
    }

    @Sentence(of = "Promise 2", says = "BAD_VALUE if there is no such setting, or the value is out of its range.")
    static void promise02BadValueIfThereIsNoSuchSetting() {
        LandingFines x = new LandingFines();
        Due.is("set(-1, 1)", x.set(-1, 1), BAD_VALUE);
        Due.is("set(6, 1)", x.set(6, 1), 60);
        Due.is("set(7, 1)", x.set(7, 1), BAD_VALUE);
        Due.is("set(MIN, 1)", x.set(LEAST, 1), BAD_VALUE);
        Due.is("set(MAX, 1)", x.set(MOST, 1), BAD_VALUE);
    }

    @Sentence(of = "Promise 2", says = "BAD_VALUE if there is no such setting, or the value is out of its range.")
    static void promise02BadValueIfTheValueIsOutOfItsRange() {
        LandingFines x = new LandingFines();
        int[] least = {0, 0, 0, 1, 1, 1, 1};
        int[] most = {9999, 9999, 9999, 99, 99999, 99999, 999};
        for (int setting = 0; setting < 7; setting++) {
            int before = x.count(7 + setting);
            Due.is("set(" + setting + ", too small)", x.set(setting, least[setting] - 1), BAD_VALUE);
            Due.is("set(" + setting + ", too large)", x.set(setting, most[setting] + 1), BAD_VALUE);
            Due.is("set(" + setting + ", MIN)", x.set(setting, LEAST), BAD_VALUE);
            Due.is("set(" + setting + ", MAX)", x.set(setting, MOST), BAD_VALUE);
            Due.is("set(" + setting + ", least)", x.set(setting, least[setting]), before);
            Due.is("set(" + setting + ", most)", x.set(setting, most[setting]), least[setting]);
        }
    }

    @Sentence(of = "Promise 3", says = "A landing comes, open and welcome. This is a change.")
    static void promise03ALandingComesOpenAndWelcome() {
        LandingFines x = new LandingFines();
        x.set(ABOVE, 1);
        x.pass(3);
        x.landing(5);
        int[] due = {1, 5, 0, 0, 0, 0, 0, 0};
        for (int what = 0; what < due.length; what++) {
            Due.is("of(0, " + what + ")", x.of(0, what), due[what]);
        }
        Due.is("can be undone", x.count(15), 3);
        x.landing(1000);
        Due.is("an error is no change", x.count(15), 3);
    }

    @Sentence(of = "Promise 3", says = "A landing comes, open and welcome. This is a change.")
    static void promise03ALandingComesAnewWhereOneWasUndone() {
        LandingFines x = new LandingFines();
        x.save(0);
        x.landing(5);
        Sentences.fine(x, 0, 3000);
        x.close(0);
        x.pass(4);
        x.restore(0);
        Due.is("landing(6)", x.landing(6), 0);
        int[] due = {1, 6, 0, 0, 0, 0, 0, 0};
        for (int what = 0; what < due.length; what++) {
            Due.is("of(0, " + what + ")", x.of(0, what), due[what]);
        }
    }

    @Sentence(of = "Promise 3", says = "Returns its number; BAD_VALUE if price is out of range;")
    static void promise03BadValueIfPriceIsOutOfRange() {
        LandingFines x = new LandingFines();
        Due.is("landing(-1)", x.landing(-1), BAD_VALUE);
        Due.is("landing(1000)", x.landing(1000), BAD_VALUE);
        Due.is("landing(MIN)", x.landing(LEAST), BAD_VALUE);
        Due.is("landing(MAX)", x.landing(MOST), BAD_VALUE);
        Due.is("landings", x.count(1), 0);
        Due.is("landing(0)", x.landing(0), 0);
        Due.is("landing(999)", x.landing(999), 1);
    }

    @Sentence(of = "Promise 3", says = "TOO_MANY if there are 8 landings.")
    static void promise03TooManyIfThereAre8Landings() {
        LandingFines x = Sentences.river(1, 2, 3, 4, 5, 6, 7);
        Due.is("the eighth", x.landing(8), 7);
        Due.is("the ninth", x.landing(9), TOO_MANY);
        Due.is("the ninth, at a bad price", x.landing(-1), BAD_VALUE);
        Due.is("landings", x.count(1), 8);
        x.undo();
        Due.is("the eighth again", x.landing(9), 7);
        Due.is("the ninth", x.landing(9), TOO_MANY);
    }

    @Sentence(of = "Promise 4", says = "A landing opens. This is a change.")
    static void promise04OpenIsAChange() {
        LandingFines x = Sentences.river(5);
        x.close(0);
        x.open(0);
        Due.is("whether it is open", x.of(0, 0), 1);
        Due.is("can be undone", x.count(15), 3);
        x.open(0);
        x.open(1);
        Due.is("an error is no change", x.count(15), 3);
        x.undo();
        Due.is("whether it is open", x.of(0, 0), 0);
    }

    @Sentence(of = "Promise 4", says = "Returns its fine then;")
    static void promise04ReturnsItsFineThen() {
        LandingFines x = Sentences.river(5);
        x.set(CLOSE, 0);
        x.close(0);
        Due.is("a fine of 0", x.open(0), 0);
        x.set(OPEN, 77);
        x.close(0);
        Due.is("a fine of 77", x.open(0), 77);
        x.set(ABOVE, 99999);
        x.set(OPEN, 9999);
        for (int i = 1; i <= 9; i++) {
            x.close(0);
            Due.is("open(0)", x.open(0), 77 + 9999 * i);
        }
        x.close(0);
        Due.is("the most fine", x.open(0), 99999);
    }

    @Sentence(of = "Promise 4", says = "NO_SUCH if there is no such landing; NOT_POSSIBLE if it is open.")
    static void promise04NoSuchIfThereIsNoSuchLanding() {
        LandingFines x = Sentences.river(5, 5);
        x.close(1);
        Due.is("open(-1)", x.open(-1), NO_SUCH);
        Due.is("open(2)", x.open(2), NO_SUCH);
        Due.is("open(8)", x.open(8), NO_SUCH);
        Due.is("open(MIN)", x.open(LEAST), NO_SUCH);
        Due.is("open(MAX)", x.open(MOST), NO_SUCH);
        Due.is("open(1)", x.open(1), 1000);
    }

    @Sentence(of = "Promise 4", says = "NO_SUCH if there is no such landing; NOT_POSSIBLE if it is open.")
    static void promise04NotPossibleIfItIsOpen() {
        LandingFines x = Sentences.river(5);
        x.set(OPEN, 3);
        Due.is("one that came open", x.open(0), NOT_POSSIBLE);
        x.close(0);
        x.open(0);
        Due.is("one that opened", x.open(0), NOT_POSSIBLE);
        Due.is("fine", x.of(0, 2), 1003);
        Due.is("changes", x.of(0, 6), 2);
    }

    @Sentence(of = "Promise 5", says = "A landing closes. This is a change.")
    static void promise05CloseIsAChange() {
        LandingFines x = Sentences.river(5);
        x.close(0);
        Due.is("whether it is open", x.of(0, 0), 0);
        Due.is("can be undone", x.count(15), 2);
        x.close(0);
        x.close(1);
        Due.is("an error is no change", x.count(15), 2);
        x.undo();
        Due.is("whether it is open", x.of(0, 0), 1);
    }

    @Sentence(of = "Promise 5", says = "Returns its fine then;")
    static void promise05ReturnsItsFineThen() {
        LandingFines x = Sentences.river(5);
        x.set(CLOSE, 0);
        Due.is("a fine of 0", x.close(0), 0);
        x.set(ABOVE, 99999);
        x.set(CLOSE, 9999);
        for (int i = 1; i <= 10; i++) {
            x.open(0);
            Due.is("close(0)", x.close(0), 9999 * i);
        }
        x.open(0);
        Due.is("the most fine", x.close(0), 99999);
    }

    @Sentence(of = "Promise 5", says = "NO_SUCH if there is no such landing; NOT_POSSIBLE if it is closed.")
    static void promise05NoSuchIfThereIsNoSuchLanding() {
        LandingFines x = Sentences.river(5, 5);
        Due.is("close(-1)", x.close(-1), NO_SUCH);
        Due.is("close(2)", x.close(2), NO_SUCH);
        Due.is("close(8)", x.close(8), NO_SUCH);
        Due.is("close(MIN)", x.close(LEAST), NO_SUCH);
        Due.is("close(MAX)", x.close(MOST), NO_SUCH);
        Due.is("close(1)", x.close(1), 1000);
    }

    @Sentence(of = "Promise 5", says = "NO_SUCH if there is no such landing; NOT_POSSIBLE if it is closed.")
    static void promise05NotPossibleIfItIsClosed() {
        LandingFines x = Sentences.river(5);
        x.close(0);
        Due.is("close(0)", x.close(0), NOT_POSSIBLE);
        Due.is("fine", x.of(0, 2), 1000);
        Due.is("changes", x.of(0, 6), 1);
    }

    @Sentence(of = "Promise 6", says = "The price of a landing changes. This is a change.")
    static void promise06PriceIsAChange() {
        LandingFines x = Sentences.river(5);
        x.price(0, 6);
        Due.is("price", x.of(0, 1), 6);
        Due.is("can be undone", x.count(15), 2);
        x.price(0, 6);
        x.price(0, 1000);
        x.price(1, 6);
        Due.is("an error is no change", x.count(15), 2);
        x.undo();
        Due.is("price", x.of(0, 1), 5);
    }

    @Sentence(of = "Promise 6", says = "Returns its fine then;")
    static void promise06ReturnsItsFineThen() {
        LandingFines x = Sentences.river(5);
        x.set(TURN, 0);
        Due.is("a fine of 0", x.price(0, 6), 0);
        x.set(ABOVE, 99999);
        x.set(TURN, 9999);
        for (int i = 1; i <= 10; i++) {
            Due.is("price(0, ..)", x.price(0, 6 + i), 9999 * i);
        }
        Due.is("the most fine", x.price(0, 17), 99999);
    }

    @Sentence(of = "Promise 6", says = "NO_SUCH if there is no such landing; BAD_VALUE if price is out of range; "
        + "NOT_POSSIBLE if it has this price.")
    static void promise06NoSuchIfThereIsNoSuchLanding() {
        LandingFines x = Sentences.river(5, 5);
        Due.is("price(-1, 1)", x.price(-1, 1), NO_SUCH);
        Due.is("price(2, 1)", x.price(2, 1), NO_SUCH);
        Due.is("price(8, 1)", x.price(8, 1), NO_SUCH);
        Due.is("price(MIN, 1)", x.price(LEAST, 1), NO_SUCH);
        Due.is("price(MAX, 1)", x.price(MOST, 1), NO_SUCH);
        Due.is("price(2, 1000)", x.price(2, 1000), NO_SUCH);
        Due.is("price(2, 0)", x.price(2, 0), NO_SUCH);
        Due.is("price(1, 1)", x.price(1, 1), 500);
    }

    @Sentence(of = "Promise 6", says = "BAD_VALUE if price is out of range;")
    static void promise06BadValueIfPriceIsOutOfRange() {
        LandingFines x = Sentences.river(5);
        Due.is("price(0, -1)", x.price(0, -1), BAD_VALUE);
        Due.is("price(0, 1000)", x.price(0, 1000), BAD_VALUE);
        Due.is("price(0, MIN)", x.price(0, LEAST), BAD_VALUE);
        Due.is("price(0, MAX)", x.price(0, MOST), BAD_VALUE);
        Due.is("price", x.of(0, 1), 5);
        Due.is("price(0, 0)", x.price(0, 0), 500);
        Due.is("price(0, 999)", x.price(0, 999), 1000);
    }

    @Sentence(of = "Promise 6", says = "NOT_POSSIBLE if it has this price.")
    static void promise06NotPossibleIfItHasThisPrice() {
        LandingFines x = Sentences.river(0, 999);
        Due.is("price(0, 0)", x.price(0, 0), NOT_POSSIBLE);
        Due.is("price(1, 999)", x.price(1, 999), NOT_POSSIBLE);
        Due.is("price(0, 999)", x.price(0, 999), 500);
        Due.is("price(0, 999)", x.price(0, 999), NOT_POSSIBLE);
        Due.is("price(0, 0)", x.price(0, 0), 1000);
        Due.is("changes", x.of(0, 6), 2);
        Due.is("changes", x.of(1, 6), 0);
    }

    @Sentence(of = "Promise 7", says = "Minutes pass. This is a change.")
    static void promise07PassIsAChange() {
        LandingFines x = new LandingFines();
        x.pass(2);
        x.pass(1);
        Due.is("minutes", x.count(0), 3);
        Due.is("can be undone", x.count(15), 2);
        x.pass(0);
        x.pass(1000);
        Due.is("an error is no change", x.count(15), 2);
        x.undo();
        Due.is("minutes", x.count(0), 2);
    }

    @Sentence(of = "Promise 7", says = "Returns how many landings become welcome again in them;")
    static void promise07ReturnsHowManyLandingsBecomeWelcomeAgain() {
        LandingFines x = Sentences.river(1, 2, 3, 4, 5, 6, 7, 8);
        Due.is("none was shunned", x.pass(15), 0);
        for (int i = 0; i < 8; i++) {
            Sentences.fine(x, i, 2500 + 1000 * (i % 2));
        }
        Due.is("none yet", x.pass(29), 0);
        Due.is("half of them", x.pass(1), 4);
        Due.is("none", x.pass(14), 0);
        Due.is("the others", x.pass(1), 4);
        Due.is("none is left", x.pass(999), 0);
        for (int i = 0; i < 8; i++) {
            Sentences.fine(x, i, 2500 + 1000 * (i % 2));
        }
        Due.is("all of them, in several minutes", x.pass(999), 8);
    }

    @Sentence(of = "Promise 7", says = "BAD_VALUE if minutes is out of range;")
    static void promise07BadValueIfMinutesIsOutOfRange() {
        LandingFines x = new LandingFines();
        Due.is("pass(0)", x.pass(0), BAD_VALUE);
        Due.is("pass(-1)", x.pass(-1), BAD_VALUE);
        Due.is("pass(1000)", x.pass(1000), BAD_VALUE);
        Due.is("pass(MIN)", x.pass(LEAST), BAD_VALUE);
        Due.is("pass(MAX)", x.pass(MOST), BAD_VALUE);
        Due.is("minutes", x.count(0), 0);
        Due.is("pass(1)", x.pass(1), 0);
        Due.is("pass(999)", x.pass(999), 0);
        Due.is("minutes", x.count(0), 1000);
    }

    @Sentence(of = "Promise 7", says = "NOT_POSSIBLE if there would be more than 99999 minutes.")
    static void promise07NotPossibleIfThereWouldBeMoreThan99999Minutes() {
        LandingFines x = new LandingFines();
        Sentences.passLong(x, 99000);
        x.save(0);
        x.pass(1);
        Due.is("100000 minutes by the longest pass()", x.pass(999), NOT_POSSIBLE);
        Due.is("99999 minutes", x.pass(998), 0);
        Due.is("minutes", x.count(0), 99999);
        Due.is("pass(1)", x.pass(1), NOT_POSSIBLE);
        Due.is("pass(999)", x.pass(999), NOT_POSSIBLE);
        Due.is("pass(1000)", x.pass(1000), BAD_VALUE);
        Due.is("minutes", x.count(0), 99999);
        x.restore(0);
        Due.is("99999 minutes by the longest pass()", x.pass(999), 0);
        x.undo();
        Due.is("behind undo()", x.pass(999), 0);
        Due.is("minutes", x.count(0), 99999);
    }
}
