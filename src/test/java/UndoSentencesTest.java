/** The sentences of promises 21 to 23 that name a boundary case: undo, saving. */
public final class UndoSentencesTest {
    private static final int BAD_VALUE = LandingFines.BAD_VALUE;
    private static final int NOT_POSSIBLE = LandingFines.NOT_POSSIBLE;
    private static final int CLOSE = LandingFines.CLOSE;
    private static final int TURN = LandingFines.TURN;
    private static final int HALF = LandingFines.HALF;
    private static final int LEAST = Integer.MIN_VALUE;
    private static final int MOST = Integer.MAX_VALUE;

    public static void main(String[] args) throws IllegalAccessException {
        Sentences.runAll(UndoSentencesTest.class);
    }

    /** A river with all that can be different: full of landings, with a full log. */
    private static LandingFines fullRiver() {
        LandingFines x = Sentences.river(8, 7, 6, 5, 4, 3, 2, 1);
        for (int i = 0; i < 8; i++) {
            Sentences.fine(x, i, 600 * i);
            x.pass(1);
        }
        x.close(6);
        x.close(1);
        x.price(0, 999);
        return x;
    }

    @Sentence(of = "Promise 21",
        says = "Undoes the latest change: everything except the pad, the slots and the history "
        + "is as it was before it.")
    static void promise21EverythingIsAsItWasBeforeIt() {
        LandingFines x = fullRiver();
        x.set(CLOSE, 3000);
        String before = Sentences.state(x);
        Due.write(x, "t999;o6;c0;p3=77;o1;c2;c3;c4;c5;c7;o2;o3;p2=0;t7");
        Due.is("carryOut()", x.carryOut(), 14);
        Due.is("how often one was shunned", x.of(7, 7), 2);
        Due.is("undo()", x.undo(), 5);
        Due.same("behind carryOut() and undo()", Sentences.state(x), before);
    }

    @Sentence(of = "Promise 21",
        says = "Undoes the latest change: everything except the pad, the slots and the history "
        + "is as it was before it.")
    static void promise21ExceptThePadAndTheSlots() {
        LandingFines x = new LandingFines();
        x.landing(5);
        x.save(0);
        x.landing(6);
        x.save(1);
        x.put('+');
        x.undo();
        x.put('7');
        Due.is("undo()", x.undo(), 0);
        Due.is("length of the pad", x.count(14), 2);
        Due.is("fault()", x.fault(), LandingFines.NONE);
        Due.is("landings", x.count(1), 0);
        Due.is("restore(1)", x.restore(1), 2);
        Due.is("restore(0)", x.restore(0), 1);
        Due.is("undo()", x.undo(), 1);
        Due.is("restore(0) behind undo() of restore(0)", x.restore(0), 1);
    }

    @Sentence(of = "Promise 21", says = "A history of at most 6 states is kept:")
    static void promise21AHistoryOfAtMost6StatesIsKept() {
        LandingFines x = new LandingFines();
        for (int i = 1; i <= 5; i++) {
            x.pass(1);
        }
        Due.is("5 changes", x.count(15), 5);
        x.pass(1);
        Due.is("6 changes", x.count(15), 6);
        x.pass(1);
        Due.is("7 changes", x.count(15), 6);
        x.pass(1);
        Due.is("8 changes", x.count(15), 6);
    }

    @Sentence(of = "Promise 21", says = "when one more is recorded, the oldest one is dropped.")
    static void promise21TheOldestOneIsDropped() {
        LandingFines x = new LandingFines();
        for (int i = 1; i <= 20; i++) {
            x.pass(i);
        }
        for (int left = 5; left >= 0; left--) {
            Due.is("undo()", x.undo(), left);
            Due.is("minutes", x.count(0), 210 - sum(left + 15, 20));
        }
        Due.is("undo()", x.undo(), NOT_POSSIBLE);
        Due.is("minutes", x.count(0), 105);
        x.pass(3);
        x.pass(4);
        Due.is("undo()", x.undo(), 1);
        Due.is("minutes", x.count(0), 108);
    }

    private static int sum(int from, int to) {
        int all = 0;
        for (int i = from; i <= to; i++) {
            all += i;
        }
        return all;
    }

    @Sentence(of = "Promise 21",
        says = "each method that is a change, and returns no error, records the state before it")
    static void promise21EachMethodThatIsAChangeRecords() {
        LandingFines x = new LandingFines();
        x.save(0);
        x.set(CLOSE, 0);
        Due.is("set", x.count(15), 1);
        x.landing(5);
        Due.is("landing", x.count(15), 2);
        x.close(0);
        Due.is("close", x.count(15), 3);
        x.open(0);
        Due.is("open", x.count(15), 4);
        x.undo();
        x.undo();
        x.price(0, 6);
        Due.is("price", x.count(15), 3);
        x.pass(1);
        Due.is("pass", x.count(15), 4);
        x.put(Due.packed("t1"));
        x.carryOut();
        Due.is("carryOut", x.count(15), 5);
        x.restore(0);
        Due.is("restore", x.count(15), 6);
        int[] landings = {1, 1, 1, 1, 0, 0};
        int[] minutes = {2, 1, 0, 0, 0, 0};
        for (int i = 0; i < 6; i++) {
            Due.is("undo()", x.undo(), 5 - i);
            Due.is("landings", x.count(1), landings[i]);
            Due.is("minutes", x.count(0), minutes[i]);
        }
        Due.is("CLOSE", x.count(7 + CLOSE), 1000);
    }

    @Sentence(of = "Promise 21",
        says = "each method that is a change, and returns no error, records the state before it")
    static void promise21AnErrorAndAQuestionRecordNothing() {
        LandingFines x = fullRiver();
        x.undo();
        x.undo();
        x.set(9, 9);
        x.landing(5);
        x.open(0);
        x.close(6);
        x.price(0, 8);
        x.pass(0);
        x.restore(0);
        x.carryOut();
        x.undo();
        x.undo();
        x.undo();
        Due.is("can be undone", x.count(15), 1);
        x.save(0);
        x.put('+');
        x.wipe();
        x.fault();
        x.of(0, 0);
        x.count(0);
        x.choice(0);
        x.log(0, 0);
        x.why(0);
        x.welcomeIn(0);
        x.mayChange(0);
        x.fineIn(0, 1);
        x.steady();
        Due.is("can be undone", x.count(15), 1);
        Due.is("undo()", x.undo(), 0);
        Due.is("undo()", x.undo(), NOT_POSSIBLE);
    }

    @Sentence(of = "Promise 21", says = "(also if nothing is different then)")
    static void promise21AlsoIfNothingIsDifferentThen() {
        LandingFines x = new LandingFines();
        x.pass(7);
        x.save(0);
        x.set(HALF, 15);
        x.restore(0);
        Due.write(x, "o0");
        x.carryOut();
        Due.is("can be undone", x.count(15), 4);
        Due.is("undo()", x.undo(), 3);
        Due.is("undo()", x.undo(), 2);
        Due.is("undo()", x.undo(), 1);
        Due.is("minutes", x.count(0), 7);
        Due.is("undo()", x.undo(), 0);
        Due.is("minutes", x.count(0), 0);
    }

    @Sentence(of = "Promise 21", says = "An order of a text records nothing by itself.")
    static void promise21AnOrderOfATextRecordsNothingByItself() {
        LandingFines x = Sentences.river(5);
        Due.write(x, "t1;t1;t1;t1;t1;t1;t1;t1");
        Due.is("carryOut()", x.carryOut(), 8);
        Due.is("can be undone", x.count(15), 2);
        Due.is("undo()", x.undo(), 1);
        Due.is("minutes", x.count(0), 0);
        Due.is("undo()", x.undo(), 0);
        Due.is("landings", x.count(1), 0);
    }

    @Sentence(of = "Promise 21", says = "Returns how many changes can be undone then; NOT_POSSIBLE if there is none.")
    static void promise21NotPossibleIfThereIsNone() {
        LandingFines x = new LandingFines();
        Due.is("a new river", x.undo(), NOT_POSSIBLE);
        x.landing(1000);
        Due.is("behind an error", x.undo(), NOT_POSSIBLE);
        x.landing(5);
        x.landing(6);
        Due.is("undo()", x.undo(), 1);
        Due.is("count(15)", x.count(15), 1);
        Due.is("undo()", x.undo(), 0);
        Due.is("count(15)", x.count(15), 0);
        Due.is("undo()", x.undo(), NOT_POSSIBLE);
        Due.is("undo()", x.undo(), NOT_POSSIBLE);
        Due.is("landings", x.count(1), 0);
    }

    @Sentence(of = "Promise 22", says = "Saves everything except the pad, the history and the slots in a slot,")
    static void promise22SavesEverythingExceptThePadTheHistoryAndTheSlots() {
        LandingFines x = fullRiver();
        String before = Sentences.state(x);
        x.put('+');
        Due.is("save(0)", x.save(0), 8);
        x.put('7');
        x.save(1);
        x.pass(500);
        x.set(TURN, 0);
        for (int i = 0; i < 20; i++) {
            x.price(3, 100 + i);
        }
        Due.is("restore(0)", x.restore(0), 8);
        Due.same("what was saved", Sentences.state(x), before);
        Due.is("the pad is as it is now", x.count(14), 2);
        Due.is("the history is as it is now", x.count(15), 6);
        Due.is("the other slot is as it is now", x.restore(1), 8);
    }

    @Sentence(of = "Promise 22", says = "and overwrites what was saved there.")
    static void promise22OverwritesWhatWasSavedThere() {
        LandingFines x = Sentences.river(5, 6);
        Due.is("save(0)", x.save(0), 2);
        x.landing(7);
        Due.is("save(1)", x.save(1), 3);
        x.landing(8);
        Due.is("save(0)", x.save(0), 4);
        x.landing(9);
        Due.is("restore(0)", x.restore(0), 4);
        Due.is("the other slot", x.restore(1), 3);
        x.undo();
        x.undo();
        x.undo();
        x.undo();
        x.undo();
        Due.is("save(0)", x.save(0), 2);
        Due.is("save(1)", x.save(1), 2);
        x.landing(7);
        Due.is("restore(0)", x.restore(0), 2);
        Due.is("of(2, 0)", x.of(2, 0), LandingFines.NO_SUCH);
    }

    @Sentence(of = "Promise 22", says = "Returns how many landings there are; BAD_VALUE if there is no such slot.")
    static void promise22ReturnsHowManyLandingsThereAre() {
        LandingFines x = new LandingFines();
        Due.is("none", x.save(0), 0);
        for (int i = 1; i <= 8; i++) {
            x.landing(5);
            Due.is("save(1)", x.save(1), i);
        }
        Due.is("save() is no change", x.count(15), 6);
    }

    @Sentence(of = "Promise 22", says = "BAD_VALUE if there is no such slot.")
    static void promise22BadValueIfThereIsNoSuchSlot() {
        LandingFines x = new LandingFines();
        Due.is("save(-1)", x.save(-1), BAD_VALUE);
        Due.is("save(2)", x.save(2), BAD_VALUE);
        Due.is("save(MIN)", x.save(LEAST), BAD_VALUE);
        Due.is("save(MAX)", x.save(MOST), BAD_VALUE);
        Due.is("restore(0)", x.restore(0), NOT_POSSIBLE);
        Due.is("restore(1)", x.restore(1), NOT_POSSIBLE);
        Due.is("save(0)", x.save(0), 0);
        Due.is("save(1)", x.save(1), 0);
    }

    @Sentence(of = "Promise 23", says = "Restores what was saved last in a slot, which keeps it.")
    static void promise23ASlotKeepsWhatWasSavedLast() {
        LandingFines x = Sentences.river(5);
        x.close(0);
        x.save(1);
        for (int i = 0; i < 3; i++) {
            x.open(0);
            x.price(0, 6);
            x.landing(7);
            x.pass(99);
            x.set(HALF, 3);
            Due.is("restore(1)", x.restore(1), 1);
            Due.is("whether it is open", x.of(0, 0), 0);
            Due.is("price", x.of(0, 1), 5);
            Due.is("fine", x.of(0, 2), 1000);
            Due.is("minutes", x.count(0), 0);
            Due.is("entries", x.count(6), 1);
            Due.is("HALF", x.count(10), 15);
        }
        x.restore(1);
        x.undo();
        Due.is("restore(1) behind undo()", x.restore(1), 1);
    }

    @Sentence(of = "Promise 23", says = "This is a change.")
    static void promise23RestoreIsAChange() {
        LandingFines x = new LandingFines();
        x.save(0);
        x.landing(5);
        x.restore(0);
        Due.is("can be undone", x.count(15), 2);
        x.restore(1);
        x.restore(2);
        Due.is("an error is no change", x.count(15), 2);
        Due.is("undo()", x.undo(), 1);
        Due.is("landings", x.count(1), 1);
        for (int i = 0; i < 7; i++) {
            x.restore(0);
        }
        Due.is("the most changes", x.count(15), 6);
        Due.is("undo()", x.undo(), 5);
        Due.is("landings", x.count(1), 0);
    }

    @Sentence(of = "Promise 23", says = "Returns how many landings there are then;")
    static void promise23ReturnsHowManyLandingsThereAreThen() {
        LandingFines x = new LandingFines();
        x.save(0);
        for (int i = 0; i < 8; i++) {
            x.landing(i);
        }
        x.save(1);
        Due.is("none", x.restore(0), 0);
        Due.is("landings", x.count(1), 0);
        Due.is("eight", x.restore(1), 8);
        Due.is("landings", x.count(1), 8);
    }

    @Sentence(of = "Promise 23", says = "BAD_VALUE if there is no such slot; NOT_POSSIBLE if nothing was saved in it.")
    static void promise23BadValueIfThereIsNoSuchSlot() {
        LandingFines x = new LandingFines();
        Due.is("restore(-1)", x.restore(-1), BAD_VALUE);
        Due.is("restore(2)", x.restore(2), BAD_VALUE);
        x.save(0);
        x.save(1);
        Due.is("restore(-1)", x.restore(-1), BAD_VALUE);
        Due.is("restore(2)", x.restore(2), BAD_VALUE);
        Due.is("restore(MIN)", x.restore(LEAST), BAD_VALUE);
        Due.is("restore(MAX)", x.restore(MOST), BAD_VALUE);
    }

    @Sentence(of = "Promise 23", says = "NOT_POSSIBLE if nothing was saved in it.")
    static void promise23NotPossibleIfNothingWasSavedInIt() {
        LandingFines x = Sentences.river(5);
        Due.is("restore(0)", x.restore(0), NOT_POSSIBLE);
        Due.is("restore(1)", x.restore(1), NOT_POSSIBLE);
        x.save(1);
        Due.is("the other slot", x.restore(0), NOT_POSSIBLE);
        Due.is("restore(1)", x.restore(1), 1);
        x.undo();
        x.undo();
        Due.is("behind undo()", x.restore(1), 1);
        Due.is("the other slot", x.restore(0), NOT_POSSIBLE);
    }
}
