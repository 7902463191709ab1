/** The sentences of promises 8 to 11 that name a boundary case: what there is. */
public final class QuestionsSentencesTest {
    private static final int NO_SUCH = LandingFines.NO_SUCH;
    private static final int BAD_VALUE = LandingFines.BAD_VALUE;
    private static final int NONE = LandingFines.NONE;
    private static final int CLOSE = LandingFines.CLOSE;
    private static final int TURN = LandingFines.TURN;
    private static final int ABOVE = LandingFines.ABOVE;
    private static final int LONGEST = LandingFines.LONGEST;
    private static final int LEAST = Integer.MIN_VALUE;
    private static final int MOST = Integer.MAX_VALUE;

    public static void main(String[] args) throws IllegalAccessException {
        Sentences.runAll(QuestionsSentencesTest.class);
    }

    @Sentence(of = "Promise 8",
        says = "0 whether it is open (1 or 0), 1 its price, 2 its fine, 3 whether it is shunned "
        + "(1 or 0), 4 for how many minutes it is shunned (0 if it is welcome), 5 minutes since its latest halving, "
        + "6 changes so far, 7 how often it was shunned so far")
    static void promise08EachWhatAtItsLeastAndAtItsMost() {
        LandingFines x = Sentences.river(0, 999);
        x.set(ABOVE, 99999);
        Sentences.fine(x, 1, 99999);
        x.set(ABOVE, 99998);
        x.set(LandingFines.HALF, 99);
        x.set(LONGEST, 999);
        x.close(1);
        x.pass(98);
        int[] first = {1, 0, 0, 0, 0, 98, 0, 0};
        int[] second = {0, 999, 99999, 1, 98, 98, 23, 1};
        for (int what = 0; what <= 7; what++) {
            Due.is("of(0, " + what + ")", x.of(0, what), first[what]);
            Due.is("of(1, " + what + ")", x.of(1, what), second[what]);
        }
    }

    @Sentence(of = "Promise 8", says = "4 for how many minutes it is shunned (0 if it is welcome)")
    static void promise08ForHowManyMinutesItIsShunned0IfItIsWelcome() {
        LandingFines x = Sentences.river(5);
        x.pass(7);
        Due.is("never shunned", x.of(0, 4), 0);
        Sentences.fine(x, 0, 3000);
        Due.is("shunned just now", x.of(0, 4), 0);
        x.pass(37);
        Due.is("for 37 minutes", x.of(0, 4), 37);
        Due.is("minutes since its halving", x.of(0, 5), 14);
        x.pass(1);
        Due.is("welcome again", x.of(0, 4), 0);
        Sentences.fine(x, 0, 3000);
        Due.is("shunned just now", x.of(0, 4), 0);
        x.pass(1);
        Due.is("from 0 again", x.of(0, 4), 1);
    }

    @Sentence(of = "Promise 8", says = "6 changes so far, 7 how often it was shunned so far")
    static void promise08ChangesAndHowOftenItWasShunnedSoFar() {
        LandingFines x = Sentences.river(5);
        x.set(LONGEST, 1);
        for (int i = 1; i <= 40; i++) {
            Sentences.fine(x, 0, 3000);
            x.price(0, 5);
            x.close(0);
            x.open(0);
            x.open(0);
            Due.is("changes", x.of(0, 6), 4 * i);
            Due.is("how often it was shunned", x.of(0, 7), i);
            x.pass(1);
        }
        Due.is("changes of one that is welcome", x.of(0, 6), 160);
        Due.is("how often it was shunned, though it is welcome", x.of(0, 7), 40);
    }

    @Sentence(of = "Promise 8", says = "NO_SUCH if there is no such landing; BAD_VALUE if what is out of range.")
    static void promise08NoSuchIfThereIsNoSuchLanding() {
        LandingFines x = Sentences.river(5, 5);
        Due.is("of(-1, 0)", x.of(-1, 0), NO_SUCH);
        Due.is("of(2, 0)", x.of(2, 0), NO_SUCH);
        Due.is("of(8, 0)", x.of(8, 0), NO_SUCH);
        Due.is("of(MIN, 0)", x.of(LEAST, 0), NO_SUCH);
        Due.is("of(MAX, 0)", x.of(MOST, 0), NO_SUCH);
        Due.is("of(2, 8)", x.of(2, 8), NO_SUCH);
        Due.is("of(1, 0)", x.of(1, 0), 1);
    }

    @Sentence(of = "Promise 8", says = "BAD_VALUE if what is out of range.")
    static void promise08BadValueIfWhatIsOutOfRange() {
        LandingFines x = Sentences.river(5);
        Due.is("of(0, -1)", x.of(0, -1), BAD_VALUE);
        Due.is("of(0, 7)", x.of(0, 7), 0);
        Due.is("of(0, 8)", x.of(0, 8), BAD_VALUE);
        Due.is("of(0, MIN)", x.of(0, LEAST), BAD_VALUE);
        Due.is("of(0, MAX)", x.of(0, MOST), BAD_VALUE);
    }

    @Sentence(of = "Promise 9", says = "0 minutes so far, 1 landings, 2 open ones, as a set, 3 shunned ones, as a set, "
        + "4 the landing that is taken (NONE), 5 switches so far, 6 entries of the log, 7 to 13 the settings, "
        + "14 the length of the pad, 15 how many changes can be undone")
    static void promise09EachWhatAtItsMost() {
        LandingFines x = Sentences.river(8, 7, 6, 5, 4, 3, 2, 1);
        for (int i = 0; i < 10; i++) {
            x.put(Due.packed("o1;c1;o1"));
        }
        int[] most = {9999, 9999, 9999, 99, 99999, 99999, 999};
        for (int setting = 0; setting < 7; setting++) {
            x.set(setting, most[setting]);
        }
        x.set(ABOVE, 1);
        for (int i = 7; i >= 0; i--) {
            x.price(i, 999);
        }
        x.close(0);
        x.open(0);
        x.close(0);
        x.open(0);
        x.set(ABOVE, 99999);
        x.set(LandingFines.BELOW, 1);
        Sentences.passLong(x, 99999 - 900);
        x.set(ABOVE, 1);
        x.set(CLOSE, 9999);
        for (int i = 0; i < 8; i++) {
            x.close(i);
            x.open(i);
        }
        x.set(LandingFines.HALF, 99);
        x.pass(900);
        int[] due = {99999, 8, 255, 255, NONE, 25, 20, 9999, 9999, 9999, 99, 1, 1, 999, 80, 6};
        for (int what = 0; what < due.length; what++) {
            Due.is("count(" + what + ")", x.count(what), due[what]);
        }
    }

    @Sentence(of = "Promise 9", says = "4 the landing that is taken (NONE)")
    static void promise09TheLandingThatIsTakenOrNone() {
        LandingFines x = new LandingFines();
        Due.is("without landings", x.count(4), NONE);
        x.landing(5);
        Due.is("the only one", x.count(4), 0);
        x.close(0);
        Due.is("a closed one", x.count(4), NONE);
        for (int i = 1; i < 8; i++) {
            x.landing(9 - i);
        }
        Due.is("the last one", x.count(4), 7);
    }

    @Sentence(of = "Promise 9", says = "Returns the number; BAD_VALUE if what is out of range.")
    static void promise09BadValueIfWhatIsOutOfRange() {
        LandingFines x = new LandingFines();
        Due.is("count(-1)", x.count(-1), BAD_VALUE);
        Due.is("count(0)", x.count(0), 0);
        Due.is("count(7)", x.count(7), 1000);
        Due.is("count(13)", x.count(13), 60);
        Due.is("count(15)", x.count(15), 0);
        Due.is("count(16)", x.count(16), BAD_VALUE);
        Due.is("count(MIN)", x.count(LEAST), BAD_VALUE);
        Due.is("count(MAX)", x.count(MOST), BAD_VALUE);
    }

    @Sentence(of = "Promise 10", says = "Returns a landing that can be taken, by price, then by number.")
    static void promise10ByPriceThenByNumber() {
        LandingFines x = Sentences.river(5, 999, 5, 0, 5, 0, 999, 1);
        int[] due = {3, 5, 7, 0, 2, 4, 1, 6};
        for (int rank = 0; rank < 8; rank++) {
            Due.is("choice(" + rank + ")", x.choice(rank), due[rank]);
        }
        x.close(3);
        Sentences.fine(x, 0, 3000);
        int[] fewer = {5, 7, 2, 4, 1, 6, NO_SUCH, NO_SUCH};
        for (int rank = 0; rank < 8; rank++) {
            Due.is("choice(" + rank + ")", x.choice(rank), fewer[rank]);
        }
    }

    @Sentence(of = "Promise 10", says = "Returns the landing; NO_SUCH if there are not so many.")
    static void promise10NoSuchIfThereAreNotSoMany() {
        LandingFines x = new LandingFines();
        Due.is("choice(0)", x.choice(0), NO_SUCH);
        x.landing(5);
        Due.is("choice(0)", x.choice(0), 0);
        Due.is("choice(1)", x.choice(1), NO_SUCH);
        Due.is("choice(-1)", x.choice(-1), NO_SUCH);
        Due.is("choice(MIN)", x.choice(LEAST), NO_SUCH);
        Due.is("choice(MAX)", x.choice(MOST), NO_SUCH);
        x.close(0);
        Due.is("choice(0)", x.choice(0), NO_SUCH);
        for (int i = 1; i < 8; i++) {
            x.landing(5);
        }
        Due.is("choice(6)", x.choice(6), 7);
        Due.is("choice(7)", x.choice(7), NO_SUCH);
        x.open(0);
        Due.is("choice(7)", x.choice(7), 7);
        Due.is("choice(8)", x.choice(8), NO_SUCH);
    }

    @Sentence(of = "Promise 11", says = "0 for the latest one")
    static void promise11AgoIs0ForTheLatestOne() {
        LandingFines x = Sentences.river(5);
        x.close(0);
        Due.is("log(0, 0)", x.log(0, 0), 0);
        x.open(0);
        Due.is("log(0, 0)", x.log(0, 0), 1);
        Due.is("log(1, 0)", x.log(1, 0), 0);
        x.set(TURN, 9000);
        x.price(0, 6);
        Due.is("log(0, 0)", x.log(0, 0), 3);
        Due.is("log(3, 0)", x.log(3, 0), 0);
        x.undo();
        Due.is("the latest one behind undo()", x.log(0, 0), 1);
    }

    @Sentence(of = "Promise 11", says = "0 what it was, 0 to 4, 1 its landing, 2 its minute")
    static void promise11WhatItWasItsLandingItsMinute() {
        LandingFines x = Sentences.river(5, 5, 5, 5, 5, 5, 5, 5);
        x.set(LONGEST, 1);
        x.set(CLOSE, 9999);
        x.close(0);
        x.pass(1);
        x.open(0);
        x.price(7, 6);
        int[] sorts = {2, 1, 4, 3, 0};
        int[] landings = {7, 0, 0, 0, 0};
        int[] minutes = {1, 1, 1, 0, 0};
        for (int ago = 0; ago < 5; ago++) {
            Due.is("log(" + ago + ", 0)", x.log(ago, 0), sorts[ago]);
            Due.is("log(" + ago + ", 1)", x.log(ago, 1), landings[ago]);
            Due.is("log(" + ago + ", 2)", x.log(ago, 2), minutes[ago]);
        }
    }

    @Sentence(of = "Promise 11", says = "Returns the number; NO_SUCH if there is no such entry; "
        + "BAD_VALUE if what is out of range.")
    static void promise11NoSuchIfThereIsNoSuchEntry() {
        LandingFines x = Sentences.river(0);
        x.set(TURN, 0);
        Due.is("an empty log", x.log(0, 0), NO_SUCH);
        for (int i = 1; i <= 25; i++) {
            x.price(0, i);
            int entries = Math.min(i, 20);
            Due.is("log(" + (entries - 1) + ", 0)", x.log(entries - 1, 0), 2);
            Due.is("log(" + entries + ", 0)", x.log(entries, 0), NO_SUCH);
        }
        Due.is("log(-1, 0)", x.log(-1, 0), NO_SUCH);
        Due.is("log(20, 3)", x.log(20, 3), NO_SUCH);
        Due.is("log(-1, -1)", x.log(-1, -1), NO_SUCH);
        Due.is("log(MIN, 0)", x.log(LEAST, 0), NO_SUCH);
        Due.is("log(MAX, 0)", x.log(MOST, 0), NO_SUCH);
    }

    @Sentence(of = "Promise 11", says = "BAD_VALUE if what is out of range.")
    static void promise11BadValueIfWhatIsOutOfRange() {
        LandingFines x = Sentences.river(5);
        x.close(0);
        Due.is("log(0, -1)", x.log(0, -1), BAD_VALUE);
        Due.is("log(0, 2)", x.log(0, 2), 0);
        Due.is("log(0, 3)", x.log(0, 3), BAD_VALUE);
        Due.is("log(0, MIN)", x.log(0, LEAST), BAD_VALUE);
        Due.is("log(0, MAX)", x.log(0, MOST), BAD_VALUE);
    }
}
