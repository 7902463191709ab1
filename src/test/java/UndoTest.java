/** Promises 21 to 23: undo, save, restore. */
public final class UndoTest {
    private static final int BAD_VALUE = LandingFines.BAD_VALUE;
    private static final int NOT_POSSIBLE = LandingFines.NOT_POSSIBLE;

    public static void main(String[] args) {
        undoOfEachChange();
        logComesBack();
        historyHasABound();
        undoKeepsPadAndSlots();
        saveAndRestore();
        restoreIsAChange();
        landingsComeAnew();
        Due.end("UndoTest");
    }

    private static void same(String call, LandingFines x, String before) {
        Due.same(call + ": the state is as it was", Sentences.state(x), before);
    }

    private static void undoOfEachChange() {
        LandingFines x = new LandingFines();
        x.set(LandingFines.CLOSE, 3000);
        x.landing(5);
        x.landing(4);
        x.close(1);
        x.save(0);
        x.set(LandingFines.LONGEST, 100);
        String before = anotherState(x);
        x.set(LandingFines.HALF, 2);
        undone("set", x, before);
        before = anotherState(x);
        x.set(LandingFines.HALF, 15);
        undone("a set() that makes nothing different", x, before);
        before = anotherState(x);
        x.landing(1);
        undone("landing", x, before);
        before = anotherState(x);
        x.open(1);
        undone("open", x, before);
        before = anotherState(x);
        x.close(0);
        undone("close", x, before);
        before = anotherState(x);
        x.price(0, 700);
        undone("price", x, before);
        before = anotherState(x);
        x.pass(999);
        undone("pass", x, before);
        before = anotherState(x);
        x.restore(0);
        undone("restore", x, before);
        before = anotherState(x);
        Due.write(x, "+5;p0=6;t70");
        Due.is("carryOut()", x.carryOut(), 3);
        undone("carryOut", x, before);
    }

    /** Makes a state that the history does not have yet, and tells it. */
    private static String anotherState(LandingFines x) {
        x.pass(1);
        return Sentences.state(x);
    }

    private static void undone(String call, LandingFines x, String before) {
        Due.is("undo of " + call, x.undo(), 5);
        same(call, x, before);
    }

    private static void logComesBack() {
        LandingFines x = new LandingFines();
        x.landing(5);
        x.landing(6);
        x.set(LandingFines.TURN, 0);
        for (int i = 0; i < 30; i++) {
            x.pass(1);
            x.price(0, 10 + i);
        }
        String full = Sentences.state(x);
        x.save(0);
        Due.write(x, "t9;c1;p1=1;o1;p1=2;c1;p1=3;o1;p1=4");
        Due.is("carryOut()", x.carryOut(), 9);
        x.undo();
        same("carryOut", x, full);
        for (int i = 0; i < 25; i++) {
            x.pass(1);
            x.close(1);
            x.open(1);
        }
        x.restore(0);
        same("restore", x, full);
    }

    private static void historyHasABound() {
        LandingFines x = new LandingFines();
        for (int i = 0; i < 8; i++) {
            Due.is("landing", x.landing(i), i);
            Due.is("can be undone", x.count(15), Math.min(i + 1, 6));
        }
        x.landing(1);
        Due.is("an error is not recorded", x.count(15), 6);
        for (int left = 5; left >= 0; left--) {
            Due.is("undo()", x.undo(), left);
            Due.is("landings", x.count(1), left + 2);
        }
        Due.is("undo()", x.undo(), NOT_POSSIBLE);
        Due.is("landings", x.count(1), 2);
        x.landing(9);
        Due.is("undo() behind an undo() and a change", x.undo(), 0);
        Due.is("landings", x.count(1), 2);
    }

    private static void undoKeepsPadAndSlots() {
        LandingFines x = new LandingFines();
        x.landing(5);
        x.put(Due.packed("+77"));
        x.save(1);
        x.undo();
        Due.is("length of the pad", x.count(14), 3);
        Due.is("landings", x.count(1), 0);
        Due.is("restore(1)", x.restore(1), 1);
        Due.is("carryOut()", x.carryOut(), 1);
        Due.is("price", x.of(1, 1), 77);
    }

    private static void saveAndRestore() {
        LandingFines x = new LandingFines();
        Due.is("save(-1)", x.save(-1), BAD_VALUE);
        Due.is("save(2)", x.save(2), BAD_VALUE);
        Due.is("restore(-1)", x.restore(-1), BAD_VALUE);
        Due.is("restore(2)", x.restore(2), BAD_VALUE);
        Due.is("restore(MAX)", x.restore(Integer.MAX_VALUE), BAD_VALUE);
        Due.is("save(MIN)", x.save(Integer.MIN_VALUE), BAD_VALUE);
        Due.is("save(0), empty", x.save(0), 0);
        Due.is("save() is no change", x.count(15), 0);
        x.set(LandingFines.CLOSE, 3000);
        x.landing(5);
        x.landing(4);
        x.close(1);
        x.pass(3);
        String full = Sentences.state(x);
        Due.is("restore(1), nothing saved", x.restore(1), NOT_POSSIBLE);
        Due.is("save(1)", x.save(1), 2);
        Due.is("restore(0)", x.restore(0), 0);
        same("restore(0)", x, Sentences.state(new LandingFines()));
        Due.is("restore(1)", x.restore(1), 2);
        same("restore(1)", x, full);
        x.price(0, 9);
        x.pass(99);
        Due.is("the slot keeps it", x.restore(1), 2);
        same("restore(1) once more", x, full);
        x.landing(6);
        Due.is("save(1) overwrites", x.save(1), 3);
        x.undo();
        Due.is("restore(1)", x.restore(1), 3);
    }

    private static void restoreIsAChange() {
        LandingFines x = new LandingFines();
        x.landing(5);
        x.save(0);
        x.price(0, 6);
        Due.is("can be undone", x.count(15), 2);
        x.restore(0);
        Due.is("can be undone", x.count(15), 3);
        Due.is("price", x.of(0, 1), 5);
        x.restore(1);
        x.restore(2);
        Due.is("an error is not recorded", x.count(15), 3);
        Due.is("undo()", x.undo(), 2);
        Due.is("price", x.of(0, 1), 6);
        Due.is("switches are not counted", x.count(5), 1);
    }

    private static void landingsComeAnew() {
        LandingFines x = new LandingFines();
        x.landing(5);
        x.save(0);
        x.landing(6);
        x.set(LandingFines.CLOSE, 3000);
        x.close(1);
        x.pass(4);
        x.restore(0);
        x.landing(7);
        int[] fresh = {1, 7, 0, 0, 0, 0, 0, 0};
        for (int what = 0; what < fresh.length; what++) {
            Due.is("of(1, " + what + ")", x.of(1, what), fresh[what]);
        }
    }
}
