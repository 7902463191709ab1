import java.util.ArrayDeque;
import java.util.ArrayList;
import java.util.Comparator;
import java.util.List;
import java.util.regex.Matcher;
import java.util.regex.Pattern;

/**
 * The document once more, in the plainest form: states are copied whole, what-ifs are real calls
 * on copies, and texts are judged by a regular expression.
 */
final class PlainRiver {
    private static final int NO_SUCH = -1, BAD_VALUE = -2, BAD_TEXT = -3, TOO_MANY = -4, NOT_POSSIBLE = -5, NONE = -6;
    private static final int[][] RANGES =
        {{0, 9999}, {0, 9999}, {0, 9999}, {1, 99}, {1, 99999}, {1, 99999}, {1, 999}};
    private static final String NUMBER = "(?:0|[1-9][0-9]{0,2})";
    private static final String ORDER = "(?:\\+" + NUMBER + "|o[0-9]|c[0-9]|p[0-9]=" + NUMBER + "|t" + NUMBER + ")";
    private static final Pattern TEXT = Pattern.compile(ORDER + "(?:;" + ORDER + ")*");

    /** of: open, price, fine, shunned, minutes shunned, minutes since halving, changes, times shunned. */
    private static final class State {
        int[] settings = {1000, 0, 500, 15, 2000, 750, 60};
        List<int[]> landings = new ArrayList<>();
        List<int[]> log = new ArrayList<>();
        int minutes;
        int switches;

        State copy() {
            State s = new State();
            s.settings = settings.clone();
            for (int[] l : landings) {
                s.landings.add(l.clone());
            }
            s.log.addAll(log);
            s.minutes = minutes;
            s.switches = switches;
            return s;
        }

        List<Integer> takeable() {
            List<Integer> some = new ArrayList<>();
            for (int i = 0; i < landings.size(); i++) {
                if (landings.get(i)[0] == 1 && landings.get(i)[3] == 0) {
                    some.add(i);
                }
            }
            some.sort(Comparator.comparingInt((Integer i) -> landings.get(i)[1]).thenComparingInt(i -> i));
            return some;
        }

        int taken() {
            return takeable().isEmpty() ? NONE : takeable().get(0);
        }

        void happened(int what, int landing) {
            log.add(0, new int[] {what, landing, minutes});
            if (log.size() > 20) {
                log.remove(20);
            }
        }

        int changed(int landing, int what) {
            int[] l = landings.get(landing);
            l[6]++;
            happened(what, landing);
            l[2] += settings[what];
            if (l[2] > 99999) {
                l[2] = 99999;
            }
            if (l[2] > settings[4] && l[3] == 0) {
                l[3] = 1;
                l[4] = 0;
                l[7]++;
                happened(3, landing);
            }
            return l[2];
        }

        int minute() {
            minutes++;
            int welcome = 0;
            for (int i = 0; i < landings.size(); i++) {
                int[] l = landings.get(i);
                l[5]++;
                if (l[5] >= settings[3]) {
                    l[2] = l[2] / 2;
                    l[5] = 0;
                }
                if (l[3] == 1) {
                    l[4]++;
                    boolean faded = l[2] < settings[5];
                    boolean late = l[4] >= settings[6];
                    if (faded || late) {
                        l[3] = 0;
                        l[4] = 0;
                        welcome++;
                        happened(4, i);
                        if (late && !faded) {
                            l[2] = settings[5] - 1;
                        }
                    }
                }
            }
            return welcome;
        }
    }

    private State now = new State();
    private final ArrayDeque<State> history = new ArrayDeque<>();
    private final State[] slots = new State[2];
    private String pad = "";

    private void record(State before) {
        history.addLast(before);
        if (history.size() > 6) {
            history.removeFirst();
        }
    }

    private boolean isNone(int landing) {
        return landing < 0 || landing >= now.landings.size();
    }

    /** Does one thing to the state; kinds as the signs of the texts, and 's' for a setting. */
    private int act(char kind, int a, int b) {
        int taken = now.taken();
        int answer;
        switch (kind) {
            case 's':
                if (a < 0 || a > 6 || b < RANGES[a][0] || b > RANGES[a][1]) {
                    return BAD_VALUE;
                }
                answer = now.settings[a];
                now.settings[a] = b;
                return answer;
            case '+':
                if (a < 0 || a > 999) {
                    return BAD_VALUE;
                }
                if (now.landings.size() == 8) {
                    return TOO_MANY;
                }
                now.landings.add(new int[] {1, a, 0, 0, 0, 0, 0, 0});
                answer = now.landings.size() - 1;
                break;
            case 'o':
            case 'c':
                if (isNone(a)) {
                    return NO_SUCH;
                }
                int becomes = kind == 'o' ? 1 : 0;
                if (now.landings.get(a)[0] == becomes) {
                    return NOT_POSSIBLE;
                }
                now.landings.get(a)[0] = becomes;
                answer = now.changed(a, becomes);
                break;
            case 'p':
                if (isNone(a)) {
                    return NO_SUCH;
                }
                if (b < 0 || b > 999) {
                    return BAD_VALUE;
                }
                if (now.landings.get(a)[1] == b) {
                    return NOT_POSSIBLE;
                }
                now.landings.get(a)[1] = b;
                answer = now.changed(a, 2);
                break;
            default:
                if (a < 1 || a > 999) {
                    return BAD_VALUE;
                }
                if (now.minutes + a > 99999) {
                    return NOT_POSSIBLE;
                }
                answer = 0;
                for (int i = 0; i < a; i++) {
                    int ahead = now.taken();
                    answer += now.minute();
                    if (now.taken() != ahead) {
                        now.switches++;
                    }
                }
                return answer;
        }
        if (now.taken() != taken) {
            now.switches++;
        }
        return answer;
    }

    int change(char kind, int a, int b) {
        State before = now.copy();
        int answer = act(kind, a, b);
        if (answer >= 0) {
            record(before);
        }
        return answer;
    }

    int of(int landing, int what) {
        if (isNone(landing)) {
            return NO_SUCH;
        }
        return what < 0 || what > 7 ? BAD_VALUE : now.landings.get(landing)[what];
    }

    private int set(int part) {
        int mask = 0;
        for (int i = 0; i < now.landings.size(); i++) {
            mask += now.landings.get(i)[part] << i;
        }
        return mask;
    }

    int count(int what) {
        if (what < 0 || what > 15) {
            return BAD_VALUE;
        }
        if (what >= 7 && what <= 13) {
            return now.settings[what - 7];
        }
        return switch (what) {
            case 0 -> now.minutes;
            case 1 -> now.landings.size();
            case 2 -> set(0);
            case 3 -> set(3);
            case 4 -> now.taken();
            case 5 -> now.switches;
            case 6 -> now.log.size();
            case 14 -> pad.length();
            default -> history.size();
        };
    }

    int choice(int rank) {
        return rank < 0 || rank >= now.takeable().size() ? NO_SUCH : now.takeable().get(rank);
    }

    int log(int ago, int what) {
        if (ago < 0 || ago >= now.log.size()) {
            return NO_SUCH;
        }
        return what < 0 || what > 2 ? BAD_VALUE : now.log.get(ago)[what];
    }

    int why(int landing) {
        if (isNone(landing)) {
            return NO_SUCH;
        }
        if (now.taken() == landing) {
            return 0;
        }
        return now.landings.get(landing)[0] == 0 ? 1 : now.landings.get(landing)[3] == 1 ? 2 : 3;
    }

    int welcomeIn(int landing) {
        if (isNone(landing)) {
            return NO_SUCH;
        }
        State copy = now.copy();
        int minutes = 0;
        while (copy.landings.get(landing)[3] == 1) {
            copy.minute();
            minutes++;
        }
        return minutes;
    }

    int mayChange(int landing) {
        if (isNone(landing)) {
            return NO_SUCH;
        }
        State copy = now.copy();
        int[] l = copy.landings.get(landing);
        int changes = 0;
        while (l[3] == 0) {
            if (changes == 100) {
                return NONE;
            }
            l[0] = 1 - l[0];
            copy.changed(landing, l[0]);
            changes++;
        }
        return changes;
    }

    int fineIn(int landing, int minutes) {
        if (isNone(landing)) {
            return NO_SUCH;
        }
        if (minutes < 0 || minutes > 999) {
            return BAD_VALUE;
        }
        State copy = now.copy();
        for (int i = 0; i < minutes; i++) {
            copy.minute();
        }
        return copy.landings.get(landing)[2];
    }

    int steady() {
        for (int m = 0; m <= 200; m++) {
            State s = new State();
            s.settings = now.settings.clone();
            s.landings.add(new int[] {1, 0, 0, 0, 0, 0, 0, 0});
            for (int i = 0; i < 80 && s.landings.get(0)[7] == 0; i++) {
                s.changed(0, i % 2);
                for (int j = 0; j < m; j++) {
                    s.minute();
                }
            }
            if (s.landings.get(0)[7] == 0) {
                return m;
            }
        }
        return NONE;
    }

    int put(long characters) {
        String added = "";
        boolean ended = false;
        for (int i = 0; i < 8; i++) {
            int code = (int) (characters >> (8 * i)) & 255;
            if (code == 0) {
                ended = true;
            } else if (ended || code < 33 || code > 126) {
                return BAD_VALUE;
            } else {
                added = (char) code + added;
            }
        }
        if (added.isEmpty()) {
            return BAD_VALUE;
        }
        if (pad.length() + added.length() > 80) {
            return TOO_MANY;
        }
        pad += added;
        return pad.length();
    }

    int wipe() {
        int length = pad.length();
        pad = "";
        return length;
    }

    int fault() {
        for (int end = 1; end <= pad.length(); end++) {
            Matcher start = TEXT.matcher(pad.substring(0, end));
            if (!start.matches() && !start.hitEnd()) {
                return end - 1;
            }
        }
        return TEXT.matcher(pad).matches() ? NONE : pad.length();
    }

    int carryOut() {
        if (fault() != NONE) {
            return BAD_TEXT;
        }
        record(now.copy());
        int count = 0;
        for (String order : pad.split(";")) {
            String[] numbers = order.substring(1).split("=");
            int second = numbers.length > 1 ? Integer.parseInt(numbers[1]) : 0;
            if (act(order.charAt(0), Integer.parseInt(numbers[0]), second) < 0) {
                break;
            }
            count++;
        }
        pad = "";
        return count;
    }

    int undo() {
        if (history.isEmpty()) {
            return NOT_POSSIBLE;
        }
        now = history.removeLast();
        return history.size();
    }

    int save(int slot) {
        if (slot < 0 || slot > 1) {
            return BAD_VALUE;
        }
        slots[slot] = now.copy();
        return now.landings.size();
    }

    int restore(int slot) {
        if (slot < 0 || slot > 1) {
            return BAD_VALUE;
        }
        if (slots[slot] == null) {
            return NOT_POSSIBLE;
        }
        record(now);
        now = slots[slot].copy();
        return now.landings.size();
    }
}
