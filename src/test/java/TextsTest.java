/** Promises 17 to 20: put, wipe, fault, carryOut. */
public final class TextsTest {
    private static final int BAD_VALUE = LandingFines.BAD_VALUE;
    private static final int BAD_TEXT = LandingFines.BAD_TEXT;
    private static final int TOO_MANY = LandingFines.TOO_MANY;
    private static final int NONE = LandingFines.NONE;

    public static void main(String[] args) {
        put();
        putHasABound();
        wipe();
        fault();
        carryOut();
        carryOutStopsAtAnError();
        carryOutOfABadText();
        Due.end("TextsTest");
    }

    private static void put() {
        LandingFines x = new LandingFines();
        Due.is("put(0)", x.put(0), BAD_VALUE);
        Due.is("put(-1)", x.put(-1), BAD_VALUE);
        Due.is("put(MIN)", x.put(Long.MIN_VALUE), BAD_VALUE);
        Due.is("put(MAX)", x.put(Long.MAX_VALUE), BAD_VALUE);
        Due.is("code 32", x.put(32), BAD_VALUE);
        Due.is("code 127", x.put(127), BAD_VALUE);
        Due.is("code 32 above", x.put(32L << 56 | Due.packed("+123456")), BAD_VALUE);
        Due.is("code 127 above", x.put(127L << 8 | 'o'), BAD_VALUE);
        Due.is("a bit above 8 bits that are 0", x.put('o' | 1L << 16), BAD_VALUE);
        Due.is("the highest bit above 8 bits that are 0", x.put('o' | 1L << 63), BAD_VALUE);
        Due.is("lowest 8 bits are 0", x.put('o' << 8), BAD_VALUE);
        Due.is("length", x.count(14), 0);
        Due.is("code 33", x.put(33), 1);
        Due.is("code 126", x.put(126), 2);
        Due.is("8 characters", x.put(Due.packed("+1;+2;+3")), 10);
        Due.is("a high code at the top", x.put(Due.packed("~~~~~~~~")), 18);
        Due.is("put() is no change", x.count(15), 0);
    }

    private static void putHasABound() {
        LandingFines x = new LandingFines();
        for (int i = 1; i <= 9; i++) {
            Due.is("put", x.put(Due.packed("o1;c1;o1")), 8 * i);
        }
        Due.is("put 7", x.put(Due.packed("+123456")), 79);
        Due.is("put 2", x.put(Due.packed("12")), TOO_MANY);
        Due.is("put 8, bad", x.put(32), BAD_VALUE);
        Due.is("put 1", x.put('1'), 80);
        Due.is("put 1", x.put('1'), TOO_MANY);
        Due.is("length", x.count(14), 80);
        Due.is("fault", x.fault(), 8);
    }

    private static void wipe() {
        LandingFines x = new LandingFines();
        x.put(Due.packed("+1"));
        Due.is("wipe()", x.wipe(), 2);
        Due.is("wipe()", x.wipe(), 0);
        Due.is("length", x.count(14), 0);
        Due.is("wipe() is no change", x.count(15), 0);
        x.put(Due.packed("+7"));
        Due.is("a text of its own", x.carryOut(), 1);
        Due.is("its price", x.of(0, 1), 7);
        Due.write(x, "+1;+2");
        Due.write(x, "+1;");
        Due.is("what was wiped is not read", x.fault(), 3);
        Due.write(x, "+");
        Due.is("what was wiped is not read", x.fault(), 1);
    }

    private static void fault() {
        faultOf("", 0);
        faultOf("x", 0);
        faultOf(";", 0);
        faultOf("+", 1);
        faultOf("+0", NONE);
        faultOf("+00", 2);
        faultOf("+01", 2);
        faultOf("+a", 1);
        faultOf("+-1", 1);
        faultOf("+999", NONE);
        faultOf("+1000", 4);
        faultOf("+9999", 4);
        faultOf("+100;", 5);
        faultOf("+100;+", 6);
        faultOf("+100;;", 5);
        faultOf("o", 1);
        faultOf("o9", NONE);
        faultOf("o10", 2);
        faultOf("c0", NONE);
        faultOf("cc", 1);
        faultOf("p", 1);
        faultOf("p0", 2);
        faultOf("p0;", 2);
        faultOf("p0=", 3);
        faultOf("p0==", 3);
        faultOf("p9=0", NONE);
        faultOf("p9=00", 4);
        faultOf("p9=999", NONE);
        faultOf("p9=9990", 6);
        faultOf("p10=5", 2);
        faultOf("t", 1);
        faultOf("t0", NONE);
        faultOf("t01", 2);
        faultOf("t999;t1", NONE);
        faultOf("t1000", 4);
        faultOf("T1", 0);
        faultOf("O1", 0);
        faultOf("+5;o1;c2;p3=4;t56", NONE);
        faultOf("+5;o1;c2;p3=4;t56o", 17);
        faultOf("+5,o1", 2);
        faultOf("t5!", 2);
        StringBuilder whole = new StringBuilder("+12");
        while (whole.length() <= 77) {
            whole.append(";o1");
        }
        faultOf(whole.append(";c").toString().substring(0, 80), 80);
    }

    private static void faultOf(String text, int want) {
        LandingFines x = new LandingFines();
        Due.write(x, text);
        Due.is("fault of \"" + text + "\"", x.fault(), want);
        Due.is("fault() keeps the pad", x.count(14), text.length());
        int answer = x.carryOut();
        Due.is("carryOut of \"" + text + "\" is BAD_TEXT", answer == BAD_TEXT ? 1 : 0, want == NONE ? 0 : 1);
    }

    private static void carryOut() {
        LandingFines x = new LandingFines();
        Due.write(x, "+20;+10;c1;p0=321;t8;o1;t7");
        Due.is("carryOut()", x.carryOut(), 7);
        Due.is("the pad is empty", x.count(14), 0);
        Due.is("one change", x.count(15), 1);
        Due.is("minutes", x.count(0), 15);
        Due.is("price", x.of(0, 1), 321);
        Due.is("fine", x.of(0, 2), 250);
        Due.is("fine", x.of(1, 2), 500);
        Due.is("switches", x.count(5), 4);
        Due.is("log: opened", x.log(0, 0), 1);
        Due.is("log: when", x.log(0, 2), 8);
        Due.is("undo()", x.undo(), 0);
        Due.is("landings", x.count(1), 0);
        Due.is("minutes", x.count(0), 0);
        Due.is("switches", x.count(5), 0);
        Due.is("the pad stays empty", x.count(14), 0);
        Due.is("carryOut() of an empty pad", x.carryOut(), BAD_TEXT);
    }

    private static void carryOutStopsAtAnError() {
        LandingFines x = new LandingFines();
        Due.write(x, "+1;+2;o0;+3");
        Due.is("up to the error", x.carryOut(), 2);
        Due.is("landings", x.count(1), 2);
        Due.is("the pad is empty", x.count(14), 0);
        Due.write(x, "t0;+3");
        Due.is("none is carried out", x.carryOut(), 0);
        Due.is("a change all the same", x.count(15), 2);
        Due.is("the pad is empty", x.count(14), 0);
        Due.is("landings", x.count(1), 2);
        Due.write(x, "o9");
        Due.is("no such landing", x.carryOut(), 0);
        Due.write(x, "p0=1");
        Due.is("the same price", x.carryOut(), 0);
        Due.write(x, "+1;+1;+1;+1;+1;+1;+1");
        Due.is("too many", x.carryOut(), 6);
        Due.is("landings", x.count(1), 8);
        Due.is("undo()", x.undo(), 4);
        Due.is("landings", x.count(1), 2);
    }

    private static void carryOutOfABadText() {
        LandingFines x = new LandingFines();
        Due.write(x, "+1;+2;o");
        Due.is("carryOut()", x.carryOut(), BAD_TEXT);
        Due.is("it stays", x.count(14), 7);
        Due.is("nothing is carried out", x.count(1), 0);
        Due.is("nothing is recorded", x.count(15), 0);
        x.put('0');
        Due.is("carryOut()", x.carryOut(), 2);
    }
}
