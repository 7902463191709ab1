import java.util.Random;

/** All promises: runs of drawn calls (always the same ones), against the plain river. */
public final class RandomRunsTest {
    private static final int RUNS = 400;
    private static final int CALLS = 512;
    private static final int[] ODD =
        {-1, -2, 8, 9, 16, 20, 100, 999, 1000, 99999, 100000, Integer.MAX_VALUE, Integer.MIN_VALUE};
    private static final int[] MOST = {9999, 9999, 9999, 99, 99999, 99999, 999};

    private final Random random;
    private final LandingFines x = new LandingFines();
    private final PlainRiver y = new PlainRiver();
    private final int longest;
    private String call;

    private RandomRunsTest(int seed) {
        random = new Random(seed);
        // In some runs minutes pass slowly, so that many changes meet before a fine has faded.
        longest = seed % 3 == 0 ? 5 : seed % 3 == 1 ? 60 : 999;
    }

    public static void main(String[] args) {
        for (int run = 0; run < RUNS && !Due.anyWrong(); run++) {
            new RandomRunsTest(run).go(run);
        }
        Due.end("RandomRunsTest");
    }

    private void go(int run) {
        for (int i = 0; i < CALLS && !Due.anyWrong(); i++) {
            oneCall("run " + run + ", call " + i + ": ");
            if (random.nextInt(20) == 0) {
                compareState("run " + run + ", behind call " + i + ", " + call + ": ");
            }
        }
        compareState("run " + run + ", at its end: ");
    }

    private int below(int bound) {
        return random.nextInt(bound);
    }

    private int number(int bound) {
        return below(40) == 0 ? ODD[below(ODD.length)] : below(bound);
    }

    private int landing() {
        return number(Math.max(1, y.count(1)));
    }

    private int drawnPrice() {
        return below(4) == 0 ? number(1000) : below(6);
    }

    private void is(String head, int got, int want) {
        Due.is(head + call, got, want);
    }

    private void oneCall(String head) {
        int kind = below(100);
        if (kind < 46) {
            change(head, kind);
        } else if (kind < 72) {
            text(head, kind);
        } else if (kind < 80) {
            past(head, kind);
        } else {
            question(head, kind);
        }
    }

    private void change(String head, int kind) {
        if (kind < 6) {
            int setting = number(7);
            int value = drawnValue(setting);
            call = "set(" + setting + ", " + value + ")";
            is(head, x.set(setting, value), y.change('s', setting, value));
        } else if (kind < 10) {
            int price = drawnPrice();
            call = "landing(" + price + ")";
            is(head, x.landing(price), y.change('+', price, 0));
        } else if (kind < 18) {
            int landing = landing();
            call = "open(" + landing + ")";
            is(head, x.open(landing), y.change('o', landing, 0));
        } else if (kind < 26) {
            int landing = landing();
            call = "close(" + landing + ")";
            is(head, x.close(landing), y.change('c', landing, 0));
        } else if (kind < 36) {
            int landing = landing();
            int price = drawnPrice();
            call = "price(" + landing + ", " + price + ")";
            is(head, x.price(landing, price), y.change('p', landing, price));
        } else {
            int minutes = number(longest + 1);
            call = "pass(" + minutes + ")";
            is(head, x.pass(minutes), y.change('t', minutes, 0));
        }
    }

    private int drawnValue(int setting) {
        if (setting < 0 || setting > 6 || below(8) == 0) {
            return number(100001);
        }
        int most = MOST[setting];
        return below(3) == 0 ? most - below(2) : below(3) == 0 ? below(most + 1) : below(most / 20 + 4);
    }

    private void text(String head, int kind) {
        if (kind < 64) {
            long characters = below(20) == 0 ? random.nextLong() : Due.packed(orders());
            call = "put(" + characters + ")";
            is(head, x.put(characters), y.put(characters));
        } else if (kind < 68) {
            call = "fault()";
            is(head, x.fault(), y.fault());
        } else if (kind < 71) {
            call = "carryOut()";
            is(head, x.carryOut(), y.carryOut());
        } else {
            call = "wipe()";
            is(head, x.wipe(), y.wipe());
        }
    }

    /** At most 8 characters: most often what goes on well behind the pad, now and then anything. */
    private String orders() {
        if (below(25) == 0) {
            String signs = "+ocpt=;0123456789x";
            StringBuilder any = new StringBuilder();
            for (int i = below(8); i >= 0; i--) {
                any.append(signs.charAt(below(signs.length())));
            }
            return any.toString();
        }
        String order = switch (below(5)) {
            case 0 -> "+" + below(1000);
            case 1 -> "o" + below(9);
            case 2 -> "c" + below(9);
            case 3 -> "p" + below(4) + "=" + below(1000);
            default -> "t" + below(longest + 1);
        };
        return y.count(14) == 0 ? order : ";" + order;
    }

    private void past(String head, int kind) {
        int slot = number(2);
        if (kind < 75) {
            call = "undo()";
            is(head, x.undo(), y.undo());
        } else if (kind < 78) {
            call = "save(" + slot + ")";
            is(head, x.save(slot), y.save(slot));
        } else {
            call = "restore(" + slot + ")";
            is(head, x.restore(slot), y.restore(slot));
        }
    }

    private void question(String head, int kind) {
        int landing = landing();
        int what = number(9);
        int minutes = number(1000);
        call = "a question about " + landing + ", " + what + ", " + minutes;
        is(head + "of, ", x.of(landing, what), y.of(landing, what));
        is(head + "log, ", x.log(minutes % 24, what % 4), y.log(minutes % 24, what % 4));
        is(head + "why, ", x.why(landing), y.why(landing));
        is(head + "welcomeIn, ", x.welcomeIn(landing), y.welcomeIn(landing));
        is(head + "mayChange, ", x.mayChange(landing), y.mayChange(landing));
        is(head + "fineIn, ", x.fineIn(landing, minutes), y.fineIn(landing, minutes));
        if (kind == 99) {
            is(head + "steady, ", x.steady(), y.steady());
        }
    }

    private void compareState(String head) {
        for (int what = -1; what <= 16; what++) {
            Due.is(head + "count(" + what + ")", x.count(what), y.count(what));
        }
        for (int landing = -1; landing <= 8; landing++) {
            for (int what = -1; what <= 8; what++) {
                Due.is(head + "of(" + landing + ", " + what + ")", x.of(landing, what), y.of(landing, what));
            }
            Due.is(head + "choice(" + landing + ")", x.choice(landing), y.choice(landing));
            Due.is(head + "why(" + landing + ")", x.why(landing), y.why(landing));
        }
        for (int ago = -1; ago <= 20; ago++) {
            for (int what = -1; what <= 3; what++) {
                Due.is(head + "log(" + ago + ", " + what + ")", x.log(ago, what), y.log(ago, what));
            }
        }
        Due.is(head + "fault()", x.fault(), y.fault());
    }
}
