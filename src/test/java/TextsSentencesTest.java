/** The sentences on texts, under 'Terms' and in promises 17 to 20, that name a boundary case. */
public final class TextsSentencesTest {
    private static final int BAD_VALUE = LandingFines.BAD_VALUE;
    private static final int BAD_TEXT = LandingFines.BAD_TEXT;
    private static final int TOO_MANY = LandingFines.TOO_MANY;
    private static final int NONE = LandingFines.NONE;
    private static final int CLOSE = LandingFines.CLOSE;

    public static void main(String[] args) throws IllegalAccessException {
        Sentences.runAll(TextsSentencesTest.class);
    }

    private static void faultOf(String text, int want) {
        LandingFines x = new LandingFines();
        Due.write(x, text);
        Due.is("fault of \"" + text + "\"", x.fault(), want);
        Due.is("carryOut of \"" + text + "\" is BAD_TEXT", x.carryOut() == BAD_TEXT ? 1 : 0, want == NONE ? 0 : 1);
    }

    /** Behind this head nothing but these characters can stand. */
    private static void onlyBehind(String head, String characters) {
        for (char c = 33; c <= 126; c++) {
            LandingFines x = new LandingFines();
            Due.write(x, head + c);
            boolean isAt = x.fault() == head.length();
            Due.is("fault at \"" + c + "\" behind \"" + head + "\"", isAt ? 1 : 0, characters.indexOf(c) < 0 ? 1 : 0);
        }
    }

    /** A text of 80 characters that has no fault on a river with an open landing. */
    private static String fullText() {
        StringBuilder text = new StringBuilder("c0;o0");
        while (text.length() < 77) {
            text.append(";c0;o0");
        }
        return text.append(";c0").toString();
    }

    @Sentence(of = "Texts", says = "The pad is a text of at most 80 characters, a row of orders:")
    static void textsThePadIsATextOfAtMost80Characters() {
        LandingFines x = Sentences.river(5);
        x.set(CLOSE, 1);
        Due.write(x, fullText());
        Due.is("length", x.count(14), 80);
        Due.is("fault()", x.fault(), NONE);
        Due.is("one more", x.put(';'), TOO_MANY);
        Due.is("fault()", x.fault(), NONE);
        Due.is("carryOut()", x.carryOut(), 27);
        Due.is("changes", x.of(0, 6), 27);
        Due.is("fine", x.of(0, 2), 14);
    }

    @Sentence(of = "Texts", says = "text = order { \";\" order }")
    static void textsAnOrderAndMoreBehindSemicolons() {
        faultOf("o1", NONE);
        faultOf("o1;c1", NONE);
        faultOf("o1;c1;+1;p1=1;t1", NONE);
        faultOf(";", 0);
        faultOf(";o1", 0);
        faultOf("o1;", 3);
        faultOf("o1;;c1", 3);
        faultOf("o1c1", 2);
        faultOf("o1,c1", 2);
        onlyBehind("o1", ";");
        onlyBehind("c1", ";");
        onlyBehind("+0", ";");
        onlyBehind("t0", ";");
        onlyBehind("p1=0", ";");
    }

    @Sentence(of = "Texts",
        says = "order = \"+\" number | \"o\" digit | \"c\" digit | \"p\" digit \"=\" number | \"t\" number")
    static void textsAnOrderBeginsWithOneOfFiveSigns() {
        onlyBehind("", "+ocpt");
        onlyBehind("o1;", "+ocpt");
        onlyBehind("+", "0123456789");
        onlyBehind("o", "0123456789");
        onlyBehind("c", "0123456789");
        onlyBehind("p", "0123456789");
        onlyBehind("t", "0123456789");
        onlyBehind("p1", "=");
        onlyBehind("p1=", "0123456789");
    }

    @Sentence(of = "Texts", says = "A digit is 0 to 9, a number 0 to 999, without leading zeros.")
    static void textsADigitIs0To9() {
        for (int digit = 0; digit <= 9; digit++) {
            faultOf("o" + digit, NONE);
            faultOf("c" + digit, NONE);
            faultOf("p" + digit + "=1", NONE);
        }
        faultOf("o10", 2);
        faultOf("c00", 2);
        faultOf("p10=1", 2);
        faultOf("o:", 1);
        faultOf("o/", 1);
    }

    @Sentence(of = "Texts", says = "A digit is 0 to 9, a number 0 to 999, without leading zeros.")
    static void textsANumberIs0To999() {
        for (String head : new String[] {"+", "t", "p1="}) {
            faultOf(head + "0", NONE);
            faultOf(head + "9", NONE);
            faultOf(head + "10", NONE);
            faultOf(head + "99", NONE);
            faultOf(head + "100", NONE);
            faultOf(head + "999", NONE);
            onlyBehind(head + "1", ";0123456789");
            onlyBehind(head + "10", ";0123456789");
        }
    }

    @Sentence(of = "Texts", says = "A digit is 0 to 9, a number 0 to 999, without leading zeros.")
    static void textsWithoutLeadingZeros() {
        for (String head : new String[] {"+", "t", "p1="}) {
            faultOf(head + "00", head.length() + 1);
            faultOf(head + "01", head.length() + 1);
            faultOf(head + "099", head.length() + 1);
            onlyBehind(head + "0", ";");
        }
    }

    @Sentence(of = "Texts", says = "The fault is the index of the first character that cannot stand at its place "
        + "when the text is read from left to right")
    static void textsTheFaultIsTheFirstCharacterThatCannotStandAtItsPlace() {
        faultOf("x", 0);
        faultOf("xxxx", 0);
        faultOf("ox;x", 1);
        faultOf("o1;o1;O1", 6);
        faultOf("+5;o1;c2;p3=4;t56o", 17);
        LandingFines x = new LandingFines();
        Due.write(x, fullText().substring(0, 79) + "x");
        Due.is("fault at the last place", x.fault(), 79);
    }

    @Sentence(of = "Texts", says = "(also of a digit by which a number would be above 999)")
    static void textsADigitByWhichANumberWouldBeAbove999() {
        for (String head : new String[] {"+", "t", "p1="}) {
            faultOf(head + "1000", head.length() + 3);
            faultOf(head + "9990", head.length() + 3);
            faultOf(head + "9999", head.length() + 3);
            faultOf(head + "1000000", head.length() + 3);
            onlyBehind(head + "100", ";");
            onlyBehind(head + "999", ";");
        }
    }

    @Sentence(of = "Texts", says = "if there is none and the text ends too early (also if it is empty), "
        + "it is the length of the text.")
    static void textsEndsTooEarly() {
        faultOf("", 0);
        faultOf("+", 1);
        faultOf("o", 1);
        faultOf("c", 1);
        faultOf("p", 1);
        faultOf("p1", 2);
        faultOf("p1=", 3);
        faultOf("t", 1);
        faultOf("+999;", 5);
        faultOf(fullText().substring(0, 79), 79);
        faultOf("+10" + fullText().substring(2, 79), 80);
        faultOf("+100" + fullText().substring(2, 77) + ";", 80);
    }

    @Sentence(of = "Promise 17", says = "Appends characters to the pad. They are given as a number: its lowest 8 bits "
        + "are the last character, the next 8 bits the one before, and so on;")
    static void promise17ItsLowest8BitsAreTheLastCharacter() {
        LandingFines x = new LandingFines();
        Due.is("put(+12)", x.put('+' << 16 | '1' << 8 | '2'), 3);
        Due.is("put(3)", x.put('3'), 4);
        Due.is("fault()", x.fault(), NONE);
        x.carryOut();
        Due.is("price", x.of(0, 1), 123);
        Due.is("put(p0=456;t)", x.put(Due.packed("p0=456;t")), 8);
        Due.is("put(7)", x.put('7'), 9);
        x.carryOut();
        Due.is("price", x.of(0, 1), 456);
        Due.is("minutes", x.count(0), 7);
    }

    @Sentence(of = "Promise 17",
        says = "8 bits that are 0 mean that there are no more characters, and everything above "
        + "them has to be 0, too.")
    static void promise17EverythingAbove8BitsThatAre0HasToBe0Too() {
        LandingFines x = new LandingFines();
        for (int bit = 16; bit < 64; bit++) {
            Due.is("bit " + bit + " above a character and 8 bits", x.put('o' | 1L << bit), BAD_VALUE);
        }
        Due.is("two characters above", x.put(('o' << 8 | '1') << 16 | 'c'), BAD_VALUE);
        Due.is("8 bits of 0 below the highest ones", x.put((long) 'o' << 56 | Due.packed("123456")), BAD_VALUE);
        Due.is("the lowest 8 bits are 0", x.put('o' << 8), BAD_VALUE);
        Due.is("length", x.count(14), 0);
        Due.is("seven characters", x.put(Due.packed("+1;+2;+")), 7);
    }

    @Sentence(of = "Promise 17", says = "1 to 8 characters")
    static void promise17OneTo8Characters() {
        LandingFines x = new LandingFines();
        int length = 0;
        for (int added = 1; added <= 8; added++) {
            length += added;
            Due.is("put of " + added, x.put(Due.packed("~~~~~~~~".substring(0, added))), length);
        }
    }

    @Sentence(of = "Promise 17", says = "BAD_VALUE if there is no character, a code is not 33 to 126, "
        + "or a bit above 8 bits that are 0 is not 0;")
    static void promise17BadValueIfThereIsNoCharacter() {
        LandingFines x = new LandingFines();
        Due.is("put(0)", x.put(0), BAD_VALUE);
        Due.is("length", x.count(14), 0);
    }

    @Sentence(of = "Promise 17", says = "BAD_VALUE if there is no character, a code is not 33 to 126, "
        + "or a bit above 8 bits that are 0 is not 0;")
    static void promise17BadValueIfACodeIsNot33To126() {
        for (int place = 0; place < 8; place++) {
            for (int code = 1; code < 256; code++) {
                LandingFines x = new LandingFines();
                long others = Due.packed("oooooooo") >>> (8 * (7 - place)) & ~(255L << (8 * place));
                int want = code >= 33 && code <= 126 ? place + 1 : BAD_VALUE;
                Due.is("code " + code + " at place " + place, x.put(others | (long) code << (8 * place)), want);
            }
        }
        LandingFines x = new LandingFines();
        Due.is("put(-1)", x.put(-1), BAD_VALUE);
        Due.is("put(MIN)", x.put(Long.MIN_VALUE), BAD_VALUE);
        Due.is("put(MAX)", x.put(Long.MAX_VALUE), BAD_VALUE);
    }

    @Sentence(of = "Promise 17", says = "Returns the length of the pad then; BAD_VALUE if there is no character, "
        + "a code is not 33 to 126, or a bit above 8 bits that are 0 is not 0; "
        + "TOO_MANY if the pad would be longer than 80.")
    static void promise17TooManyIfThePadWouldBeLongerThan80() {
        LandingFines x = new LandingFines();
        Due.write(x, fullText().substring(0, 73));
        Due.is("8 more", x.put(Due.packed("12345678")), TOO_MANY);
        Due.is("length", x.count(14), 73);
        Due.is("7 more", x.put(Due.packed("1234567")), 80);
        Due.is("1 more", x.put('1'), TOO_MANY);
        Due.is("8 more", x.put(Due.packed("12345678")), TOO_MANY);
        Due.is("none", x.put(0), BAD_VALUE);
        Due.is("a bad one", x.put(32), BAD_VALUE);
        Due.is("length", x.count(14), 80);
        x.wipe();
        Due.write(x, fullText().substring(0, 72));
        Due.is("8 more", x.put(Due.packed("12345678")), 80);
    }

    @Sentence(of = "Promise 18", says = "Empties the pad, and returns the length that it had.")
    static void promise18EmptiesThePad() {
        LandingFines x = new LandingFines();
        Due.is("an empty one", x.wipe(), 0);
        x.put('+');
        Due.is("one of 1 character", x.wipe(), 1);
        Due.is("length", x.count(14), 0);
        Due.is("fault()", x.fault(), 0);
        Due.is("an empty one", x.wipe(), 0);
        Due.write(x, fullText());
        Due.is("a full one", x.wipe(), 80);
        Due.is("length", x.count(14), 0);
        Due.is("put behind wipe()", x.put(Due.packed("+7")), 2);
        Due.is("fault()", x.fault(), NONE);
        Due.is("carryOut()", x.carryOut(), 1);
        Due.is("wipe() and put() are no changes", x.count(15), 1);
    }

    @Sentence(of = "Promise 19", says = "Returns the fault of the pad, NONE if there is none.")
    static void promise19NoneIfThereIsNone() {
        LandingFines x = new LandingFines();
        Due.is("an empty pad", x.fault(), 0);
        x.put('t');
        Due.is("too early", x.fault(), 1);
        x.put('9');
        Due.is("none", x.fault(), NONE);
        Due.is("none as before", x.fault(), NONE);
        x.put('x');
        Due.is("a fault at 2", x.fault(), 2);
        x.put('x');
        Due.is("the first fault", x.fault(), 2);
        Due.is("length", x.count(14), 4);
        Due.is("fault() is no change", x.count(15), 0);
    }

    @Sentence(of = "Promise 20", says = "Carries the orders of the pad out, one after the other, up to the first one "
        + "that returns an error, and empties the pad.")
    static void promise20UpToTheFirstOneThatReturnsAnError() {
        String[] bad = {"o0", "o2", "c1", "c9", "p0=7", "p9=1", "t0", "p8=0"};
        for (String order : bad) {
            LandingFines x = Sentences.river(5);
            Due.write(x, "p0=7;+1;c1;" + order + ";t5;+2");
            Due.is("carryOut() with " + order, x.carryOut(), 3);
            Due.is("landings", x.count(1), 2);
            Due.is("minutes", x.count(0), 0);
            Due.is("fine", x.of(1, 2), 1000);
            Due.is("the pad is empty", x.count(14), 0);
            Due.is("one change", x.count(15), 2);
        }
        LandingFines y = Sentences.river(1, 2, 3, 4, 5, 6, 7);
        Due.write(y, "+8;+9;t5");
        Due.is("a ninth landing", y.carryOut(), 1);
        Due.is("minutes", y.count(0), 0);
        Sentences.passLong(y, 99990);
        Due.write(y, "t9;t1;c0");
        Due.is("more than 99999 minutes", y.carryOut(), 1);
        Due.is("minutes", y.count(0), 99999);
        Due.is("whether it is open", y.of(0, 0), 1);
    }

    @Sentence(of = "Promise 20", says = "Carries the orders of the pad out, one after the other,")
    static void promise20AnAnswerOf0IsNoError() {
        LandingFines x = new LandingFines();
        Due.write(x, "+0;p0=999;t999;p0=0;t1;c0;o0");
        Due.is("carryOut()", x.carryOut(), 7);
        Due.is("minutes", x.count(0), 1000);
        Due.is("price", x.of(0, 1), 0);
        Due.is("changes", x.of(0, 6), 4);
        x.set(CLOSE, 0);
        Sentences.passLong(x, 2000);
        Due.write(x, "c0;o0;c0;o0");
        Due.is("fines of 0", x.carryOut(), 4);
    }

    @Sentence(of = "Promise 20", says = "This is a change (one, with all of them; also if none is carried out).")
    static void promise20OneChangeWithAllOfThem() {
        LandingFines x = new LandingFines();
        Due.write(x, "+1;+2;c0;o0;p1=0;t9;+3");
        Due.is("carryOut()", x.carryOut(), 7);
        Due.is("can be undone", x.count(15), 1);
        Due.is("undo()", x.undo(), 0);
        Due.same("the state", Sentences.state(x), Sentences.state(new LandingFines()));
        Due.is("the pad stays empty", x.count(14), 0);
    }

    @Sentence(of = "Promise 20", says = "This is a change (one, with all of them; also if none is carried out).")
    static void promise20AChangeAlsoIfNoneIsCarriedOut() {
        LandingFines x = Sentences.river(5);
        Due.write(x, "t0");
        Due.is("carryOut()", x.carryOut(), 0);
        Due.is("can be undone", x.count(15), 2);
        Due.write(x, "o9;+3");
        Due.is("carryOut()", x.carryOut(), 0);
        Due.is("can be undone", x.count(15), 3);
        Due.is("the pad is empty", x.count(14), 0);
        Due.is("undo()", x.undo(), 2);
        Due.is("undo()", x.undo(), 1);
        Due.is("landings", x.count(1), 1);
        Due.is("undo()", x.undo(), 0);
        Due.is("landings", x.count(1), 0);
    }

    @Sentence(of = "Promise 20", says = "Returns how many orders were carried out; BAD_TEXT if the pad has a fault "
        + "(then it stays).")
    static void promise20BadTextIfThePadHasAFault() {
        LandingFines x = new LandingFines();
        Due.is("an empty pad", x.carryOut(), BAD_TEXT);
        Due.write(x, "+1;+2;+");
        Due.is("one that ends too early", x.carryOut(), BAD_TEXT);
        Due.is("it stays", x.count(14), 7);
        Due.is("landings", x.count(1), 0);
        Due.is("can be undone", x.count(15), 0);
        x.put('3');
        Due.is("carryOut()", x.carryOut(), 3);
        Due.is("price", x.of(2, 1), 3);
        Due.write(x, "+1;o1x");
        Due.is("one with a bad sign at its end", x.carryOut(), BAD_TEXT);
        Due.is("fault()", x.fault(), 5);
        Due.is("landings", x.count(1), 3);
        Due.is("can be undone", x.count(15), 1);
    }
}
