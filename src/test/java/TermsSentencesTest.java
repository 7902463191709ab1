import java.util.function.ToIntFunction;

/** The sentences under 'Terms' up to the landings that name a boundary case: conventions and settings. */
public final class TermsSentencesTest {
    private static final int NO_SUCH = LandingFines.NO_SUCH;
    private static final int BAD_VALUE = LandingFines.BAD_VALUE;
    private static final int BAD_TEXT = LandingFines.BAD_TEXT;
    private static final int TOO_MANY = LandingFines.TOO_MANY;
    private static final int NOT_POSSIBLE = LandingFines.NOT_POSSIBLE;
    private static final int NONE = LandingFines.NONE;
    private static final int CLOSE = LandingFines.CLOSE;
    private static final int OPEN = LandingFines.OPEN;
    private static final int TURN = LandingFines.TURN;
    private static final int HALF = LandingFines.HALF;
    private static final int ABOVE = LandingFines.ABOVE;
    private static final int BELOW = LandingFines.BELOW;
    private static final int LONGEST = LandingFines.LONGEST;

    public static void main(String[] args) throws IllegalAccessException {
        Sentences.runAll(TermsSentencesTest.class);
    }

    @Sentence(of = "What it is", says = "An object is used for at most 512 calls after it has been made;")
    static void whatItIsAtMost512Calls() {
        LandingFines x = new LandingFines();
        x.set(CLOSE, 9999);
        x.landing(5);
        for (int i = 0; i < 253; i++) {
            x.close(0);
            x.open(0);
        }
        Due.is("call 509", x.of(0, 6), 506);
        Due.is("call 510", x.of(0, 2), 99999);
        Due.is("call 511", x.undo(), 5);
        Due.is("call 512", x.of(0, 6), 505);
        LandingFines y = new LandingFines();
        y.set(LandingFines.HALF, 99);
        y.set(CLOSE, 2);
        y.set(ABOVE, 2);
        for (int i = 4; i <= 512; i++) {
            Due.is("call " + i, y.steady(), 99);
        }
    }

    @Sentence(of = "Conventions", says = "it names its errors in the order in which they are checked, "
        + "and the first one that applies is returned.")
    static void conventionsTheFirstErrorThatAppliesIsReturned() {
        LandingFines x = Sentences.river(1, 2, 3, 4, 5, 6, 7, 8);
        Due.is("a bad price for a ninth", x.landing(1000), BAD_VALUE);
        Due.is("a bad price for a ninth", x.landing(-1), BAD_VALUE);
        Due.is("a bad price for no landing", x.price(8, 1000), NO_SUCH);
        Due.is("a bad price for no landing", x.price(-1, -1), NO_SUCH);
        Due.is("bad of() for no landing", x.of(8, 8), NO_SUCH);
        Due.is("bad log() for no entry", x.log(0, 3), NO_SUCH);
        Due.is("bad minutes for no landing", x.fineIn(8, 1000), NO_SUCH);
        Due.is("bad slot in which nothing was saved", x.restore(2), BAD_VALUE);
        Sentences.passLong(x, 99999);
        Due.is("bad minutes at the end", x.pass(1000), BAD_VALUE);
        for (int i = 0; i < 10; i++) {
            x.put(Due.packed("+1;+2;+3"));
        }
        Due.is("a bad character for a full pad", x.put(127), BAD_VALUE);
    }

    @Sentence(of = "Conventions", says = "A call that returns an error changes nothing.")
    static void conventionsACallThatReturnsAnErrorChangesNothing() {
        refused("set(7, 1)", BAD_VALUE, x -> x.set(7, 1));
        refused("set(-1, 1)", BAD_VALUE, x -> x.set(-1, 1));
        refused("set(CLOSE, 10000)", BAD_VALUE, x -> x.set(CLOSE, 10000));
        refused("set(HALF, 0)", BAD_VALUE, x -> x.set(HALF, 0));
        refused("landing(-1)", BAD_VALUE, x -> x.landing(-1));
        refused("landing(1000)", BAD_VALUE, x -> x.landing(1000));
        refused("landing(1)", TOO_MANY, x -> x.landing(1));
        refused("open(8)", NO_SUCH, x -> x.open(8));
        refused("open(0)", NOT_POSSIBLE, x -> x.open(0));
        refused("close(8)", NO_SUCH, x -> x.close(8));
        refused("close(1)", NOT_POSSIBLE, x -> x.close(1));
        refused("price(8, 1)", NO_SUCH, x -> x.price(8, 1));
        refused("price(0, 1000)", BAD_VALUE, x -> x.price(0, 1000));
        refused("price(0, 5)", NOT_POSSIBLE, x -> x.price(0, 5));
        refused("pass(0)", BAD_VALUE, x -> x.pass(0));
        refused("pass(1000)", BAD_VALUE, x -> x.pass(1000));
        refused("pass(999)", NOT_POSSIBLE, x -> x.pass(999));
        refused("of(8, 0)", NO_SUCH, x -> x.of(8, 0));
        refused("of(0, 8)", BAD_VALUE, x -> x.of(0, 8));
        refused("count(16)", BAD_VALUE, x -> x.count(16));
        refused("choice(8)", NO_SUCH, x -> x.choice(8));
        refused("log(20, 0)", NO_SUCH, x -> x.log(20, 0));
        refused("log(0, 3)", BAD_VALUE, x -> x.log(0, 3));
        refused("why(8)", NO_SUCH, x -> x.why(8));
        refused("welcomeIn(8)", NO_SUCH, x -> x.welcomeIn(8));
        refused("mayChange(8)", NO_SUCH, x -> x.mayChange(8));
        refused("fineIn(8, 1)", NO_SUCH, x -> x.fineIn(8, 1));
        refused("fineIn(0, 1000)", BAD_VALUE, x -> x.fineIn(0, 1000));
        refused("put(0)", BAD_VALUE, x -> x.put(0));
        refused("put(o, with a space)", BAD_VALUE, x -> x.put(Due.packed("o ")));
        refused("put(8 characters)", TOO_MANY, x -> x.put(Due.packed("+1;+2;+3")));
        refused("carryOut()", BAD_TEXT, x -> x.carryOut());
        refused("save(2)", BAD_VALUE, x -> x.save(2));
        refused("restore(2)", BAD_VALUE, x -> x.restore(2));
        refused("restore(1)", NOT_POSSIBLE, x -> x.restore(1));
        LandingFines y = Sentences.river(5);
        y.undo();
        String before = Sentences.state(y);
        Due.is("undo() of nothing", y.undo(), NOT_POSSIBLE);
        Due.same("undo() of nothing changes nothing", Sentences.state(y), before);
    }

    /** A river on which every call above is refused. */
    private static LandingFines busyRiver() {
        LandingFines x = Sentences.river(5, 6, 6, 6, 6, 6, 6);
        Sentences.passLong(x, 99001);
        x.save(0);
        x.landing(3);
        x.set(CLOSE, 3000);
        x.close(1);
        x.price(2, 700);
        x.pass(3);
        for (int i = 0; i < 9; i++) {
            x.put(Due.packed("o1;c1;o1"));
        }
        x.put('p');
        return x;
    }

    private static void refused(String call, int error, ToIntFunction<LandingFines> one) {
        LandingFines x = busyRiver();
        LandingFines twin = busyRiver();
        Due.is(call, one.applyAsInt(x), error);
        Due.same(call + " changes not the state", Sentences.state(x), Sentences.state(twin));
        Due.is(call + " changes not the pad", x.count(14), twin.count(14));
        Due.is(call + " changes not the text", x.fault(), twin.fault());
        for (int left = 5; left >= 0; left--) {
            Due.is("undo() behind " + call, x.undo(), left);
            Due.is("undo()", twin.undo(), left);
        }
        Due.same(call + " changes not the history", Sentences.state(x), Sentences.state(twin));
        Due.is("restore(1) behind " + call, x.restore(1), NOT_POSSIBLE);
        Due.is("restore(0) behind " + call, x.restore(0), 7);
        twin.restore(0);
        Due.same(call + " changes not the slots", Sentences.state(x), Sentences.state(twin));
    }

    @Sentence(of = "Conventions", says = "NONE (-6) is not an error; it is returned only if no error applies.")
    static void conventionsNoneIsReturnedOnlyIfNoErrorApplies() {
        LandingFines x = Sentences.river(5);
        x.set(CLOSE, 0);
        Due.is("NONE", NONE, -6);
        Due.is("mayChange(0)", x.mayChange(0), NONE);
        Due.is("mayChange(1)", x.mayChange(1), NO_SUCH);
        x.close(0);
        Due.is("count(4)", x.count(4), NONE);
        Due.is("choice(0)", x.choice(0), NO_SUCH);
    }

    @Sentence(of = "Conventions", says = "Everything is numbered from 0.")
    static void conventionsEverythingIsNumberedFrom0() {
        LandingFines x = new LandingFines();
        Due.is("landing(5)", x.landing(5), 0);
        x.close(0);
        Due.is("of(0, 0)", x.of(0, 0), 0);
        Due.is("of(1, 0)", x.of(1, 0), NO_SUCH);
        Due.is("log(0, 0)", x.log(0, 0), 0);
        Due.is("log(1, 0)", x.log(1, 0), NO_SUCH);
        x.open(0);
        Due.is("choice(0)", x.choice(0), 0);
        Due.is("choice(1)", x.choice(1), NO_SUCH);
        Due.is("save(0)", x.save(0), 1);
        x.put('x');
        Due.is("fault()", x.fault(), 0);
    }

    @Sentence(of = "Conventions", says = "Sets of landings are bit masks.")
    static void conventionsSetsOfLandingsAreBitMasks() {
        LandingFines x = Sentences.river(1, 2, 3, 4, 5, 6, 7, 8);
        x.set(CLOSE, 9999);
        Due.is("all are open", x.count(2), 255);
        Due.is("none is shunned", x.count(3), 0);
        x.close(0);
        Due.is("all but the first", x.count(2), 254);
        Due.is("the first", x.count(3), 1);
        x.close(7);
        Due.is("all but the first and the last", x.count(2), 126);
        Due.is("the first and the last", x.count(3), 129);
    }

    @Sentence(of = "Conventions", says = "Divisions are rounded down.")
    static void conventionsDivisionsAreRoundedDown() {
        LandingFines x = Sentences.river(5);
        Sentences.fine(x, 0, 7);
        x.set(HALF, 1);
        int[] due = {3, 1, 0, 0};
        for (int fine : due) {
            x.pass(1);
            Due.is("half of the fine", x.of(0, 2), fine);
        }
    }

    /** That a setting has this first value, and takes its range and nothing else. */
    private static void range(int setting, int least, int most, int first) {
        LandingFines x = new LandingFines();
        Due.is("first value", x.count(7 + setting), first);
        Due.is("too small", x.set(setting, least - 1), BAD_VALUE);
        Due.is("too large", x.set(setting, most + 1), BAD_VALUE);
        Due.is("far too small", x.set(setting, Integer.MIN_VALUE), BAD_VALUE);
        Due.is("far too large", x.set(setting, Integer.MAX_VALUE), BAD_VALUE);
        Due.is("value behind errors", x.count(7 + setting), first);
        Due.is("the least", x.set(setting, least), first);
        Due.is("value", x.count(7 + setting), least);
        Due.is("the most", x.set(setting, most), least);
        Due.is("value", x.count(7 + setting), most);
    }

    @Sentence(of = "Settings", says = "CLOSE (0 to 9999; 1000)")
    static void settingsClose0To9999First1000() {
        range(CLOSE, 0, 9999, 1000);
        LandingFines x = Sentences.river(5, 5, 5);
        Due.is("closing", x.close(0), 1000);
        x.set(CLOSE, 0);
        Due.is("closing for nothing", x.close(1), 0);
        x.set(CLOSE, 9999);
        Due.is("closing for the most", x.close(2), 9999);
    }

    @Sentence(of = "Settings", says = "OPEN (0 to 9999; 0)")
    static void settingsOpen0To9999First0() {
        range(OPEN, 0, 9999, 0);
        LandingFines x = Sentences.river(5, 5);
        x.set(CLOSE, 0);
        x.close(0);
        Due.is("opening for nothing", x.open(0), 0);
        x.close(1);
        x.set(OPEN, 9999);
        Due.is("opening for the most", x.open(1), 9999);
    }

    @Sentence(of = "Settings", says = "TURN (0 to 9999; 500): the fine for closing, for opening, "
        + "and for a change of the price;")
    static void settingsTurn0To9999First500() {
        range(TURN, 0, 9999, 500);
        LandingFines x = Sentences.river(5, 5, 5);
        Due.is("a change of the price", x.price(0, 6), 500);
        x.set(TURN, 0);
        Due.is("a change for nothing", x.price(1, 6), 0);
        x.set(TURN, 9999);
        Due.is("a change for the most", x.price(2, 6), 9999);
    }

    @Sentence(of = "Settings", says = "HALF (1 to 99; 15): minutes in which a fine fades by half;")
    static void settingsHalf1To99First15() {
        range(HALF, 1, 99, 15);
        fadesBehind(15, false);
        fadesBehind(1, true);
        fadesBehind(99, true);
    }

    private static void fadesBehind(int minutes, boolean isSet) {
        LandingFines x = Sentences.river(5);
        if (isSet) {
            x.set(HALF, minutes);
        }
        x.price(0, 6);
        if (minutes > 1) {
            x.pass(minutes - 1);
        }
        Due.is("fine ahead of minute " + minutes, x.of(0, 2), 500);
        x.pass(1);
        Due.is("fine behind minute " + minutes, x.of(0, 2), 250);
    }

    @Sentence(of = "Settings", says = "ABOVE (1 to 99999; 2000)")
    static void settingsAbove1To99999First2000() {
        range(ABOVE, 1, 99999, 2000);
        LandingFines x = Sentences.river(5, 5);
        Sentences.fine(x, 0, 2000);
        Sentences.fine(x, 1, 2001);
        Due.is("above 2000", x.count(3), 2);
        LandingFines y = Sentences.river(5, 5);
        y.set(ABOVE, 1);
        Sentences.fine(y, 0, 1);
        Sentences.fine(y, 1, 2);
        Due.is("above 1", y.count(3), 2);
        LandingFines z = Sentences.river(5);
        z.set(ABOVE, 99999);
        Sentences.fine(z, 0, 120000);
        Due.is("the most fine", z.of(0, 2), 99999);
        Due.is("none is above 99999", z.count(3), 0);
    }

    @Sentence(of = "Settings", says = "BELOW (1 to 99999; 750)")
    static void settingsBelow1To99999First750() {
        range(BELOW, 1, 99999, 750);
        belowIs(750, false);
        belowIs(99999, true);
        LandingFines x = Sentences.river(5);
        x.set(BELOW, 1);
        x.set(ABOVE, 3);
        x.set(HALF, 2);
        Sentences.fine(x, 0, 4);
        x.pass(5);
        Due.is("fine", x.of(0, 2), 1);
        Due.is("a fine of 1 is not below 1", x.of(0, 3), 1);
        x.pass(1);
        Due.is("fine", x.of(0, 2), 0);
        Due.is("a fine of 0 is", x.of(0, 3), 0);
    }

    /** A shunned landing with a fine of BELOW stays shunned, one with a fine of 1 less does not. */
    private static void belowIs(int below, boolean isSet) {
        LandingFines x = Sentences.river(5, 5);
        if (isSet) {
            x.set(BELOW, below);
        }
        x.set(ABOVE, 99999);
        Sentences.fine(x, 0, below);
        Sentences.fine(x, 1, below - 1);
        x.set(ABOVE, 1);
        shunByNothing(x, 0);
        shunByNothing(x, 1);
        Due.is("both are shunned", x.count(3), 3);
        x.pass(1);
        Due.is("behind a minute, BELOW is " + below, x.count(3), 1);
        Due.is("fine", x.of(0, 2), below);
        Due.is("fine", x.of(1, 2), below - 1);
    }

    /** Lets a landing, whose fine is above ABOVE, be shunned by a change that adds no fine. */
    private static void shunByNothing(LandingFines x, int landing) {
        x.set(CLOSE, 0);
        x.close(landing);
        x.open(landing);
    }

    @Sentence(of = "Settings", says = "LONGEST (1 to 999; 60): the most minutes that a landing is shunned, "
        + "one behind the other.")
    static void settingsLongest1To999First60() {
        range(LONGEST, 1, 999, 60);
        shunnedFor(60, false);
        shunnedFor(1, true);
        shunnedFor(999, true);
    }

    private static void shunnedFor(int longest, boolean isSet) {
        LandingFines x = Sentences.river(5);
        if (isSet) {
            x.set(LONGEST, longest);
        }
        x.set(HALF, 99);
        x.set(BELOW, 1);
        for (int round = 0; round < 2; round++) {
            Sentences.fine(x, 0, 9999);
            if (longest > 1) {
                x.pass(longest - 1);
            }
            Due.is("shunned ahead of minute " + longest, x.of(0, 3), 1);
            Due.is("for how long", x.of(0, 4), longest - 1);
            Due.is("minute " + longest, x.pass(1), 1);
        }
    }
}
