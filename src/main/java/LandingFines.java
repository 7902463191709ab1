/** Landings of a ferry that are fined for each change and shunned until the fine has faded. */
public final class LandingFines {
    public static final int NO_SUCH = -1, BAD_VALUE = -2, BAD_TEXT = -3, TOO_MANY = -4, NOT_POSSIBLE = -5, NONE = -6;
    public static final int CLOSE = 0, OPEN = 1, TURN = 2, HALF = 3, ABOVE = 4, BELOW = 5, LONGEST = 6;

    private static final int[] LEAST_SETTING = {0, 0, 0, 1, 1, 1, 1};
    private static final int[] MOST_SETTING = {9999, 9999, 9999, 99, 99999, 99999, 999};
    private static final int[] FIRST_SETTING = {1000, 0, 500, 15, 2000, 750, 60};

    private static final int MOST_LANDINGS = 8;
    private static final int MOST_PRICE = 999;
    private static final int MOST_FINE = 99999;
    private static final int MOST_PASSING = 999;
    private static final int MOST_MINUTES = 99999;
    private static final int MOST_LONGEST = 999;
    private static final int MOST_CHANGES_TOLD = 100;
    private static final int MOST_STEADY = 200;
    private static final int STEADY_CHANGES = 80;
    private static final int MOST_SHIFT = 31;

    // The log's first three sorts of entries are numbered as the settings CLOSE, OPEN and TURN.
    private static final int SHUNNED = 3;
    private static final int WELCOME = 4;
    private static final int LOG_SIZE = 20;

    private static final int PAD_SIZE = 80;
    private static final int CHARACTERS_AT_ONCE = 8;
    private static final int LEAST_CODE = 33;
    private static final int MOST_CODE = 126;
    private static final int DIGITS_OF_NUMBER = 3;

    private static final int HISTORY_SIZE = 6;
    private static final int SLOTS = 2;

    private final River river = new River();
    // One row more than the history keeps: the state ahead of a call is copied to it
    // before it is known whether the call returns an error.
    private final River[] history = new River[HISTORY_SIZE + 1];
    private int historySize = 0;
    private final River[] slots = new River[SLOTS];
    private final boolean[] slotUsed = new boolean[SLOTS];
    private final Pad pad = new Pad();
    private final Landing trial = new Landing();

    public LandingFines() {
        for (int i = 0; i < history.length; i++) {
            history[i] = new River();
        }
        for (int i = 0; i < slots.length; i++) {
            slots[i] = new River();
        }
    }

    // ---- changes

    public int set(int setting, int value) {
        keepState();
        return recordUnlessError(river.changeSetting(setting, value));
    }

    public int landing(int price) {
        keepState();
        return recordUnlessError(river.addLanding(price));
    }

    public int open(int landing) {
        keepState();
        return recordUnlessError(river.openLanding(landing));
    }

    public int close(int landing) {
        keepState();
        return recordUnlessError(river.closeLanding(landing));
    }

    public int price(int landing, int price) {
        keepState();
        return recordUnlessError(river.changePrice(landing, price));
    }

    public int pass(int minutes) {
        keepState();
        return recordUnlessError(river.passMinutes(minutes));
    }

    // ---- what there is

    public int of(int landing, int what) {
        Landing one = river.find(landing);
        return one == null ? NO_SUCH : one.tell(what);
    }

    public int count(int what) {
        if (what == 14) {
            return pad.length;
        }
        if (what == 15) {
            return historySize;
        }
        return river.tell(what);
    }

    public int choice(int rank) {
        return river.chosen(rank);
    }

    public int log(int ago, int what) {
        return river.journal.tell(ago, what);
    }

    // ---- what if; nothing changes

    public int why(int landing) {
        Landing one = river.find(landing);
        if (one == null) {
            return NO_SUCH;
        }
        if (landing == river.taken) {
            return 0;
        }
        if (!one.isOpen) {
            return 1;
        }
        return one.isShunned ? 2 : 3;
    }

    public int welcomeIn(int landing) {
        Landing one = river.find(landing);
        if (one == null) {
            return NO_SUCH;
        }
        trial.copyFrom(one);
        int minutes = 0;
        while (trial.isShunned && minutes < MOST_LONGEST) {
            river.passMinuteOf(trial);
            minutes++;
        }
        return minutes;
    }

    public int mayChange(int landing) {
        Landing one = river.find(landing);
        if (one == null) {
            return NO_SUCH;
        }
        if (one.isShunned) {
            return 0;
        }
        trial.copyFrom(one);
        for (int changes = 1; changes <= MOST_CHANGES_TOLD; changes++) {
            trial.isOpen = !trial.isOpen;
            if (river.fineBySort(trial, trial.isOpen ? OPEN : CLOSE)) {
                return changes;
            }
        }
        return NONE;
    }

    public int fineIn(int landing, int minutes) {
        Landing one = river.find(landing);
        if (one == null) {
            return NO_SUCH;
        }
        if (minutes < 0 || minutes > MOST_PASSING) {
            return BAD_VALUE;
        }
        trial.copyFrom(one);
        for (int i = 0; i < minutes; i++) {
            river.passMinuteOf(trial);
        }
        return trial.fine;
    }

    public int steady() {
        // More minutes may do worse (they shift the changes against the halvings),
        // so each number is tried in its turn.
        for (int minutes = 0; minutes <= MOST_STEADY; minutes++) {
            if (staysWelcome(minutes)) {
                return minutes;
            }
        }
        return NONE;
    }

    private boolean staysWelcome(int minutes) {
        trial.arrive(0);
        for (int i = 0; i < STEADY_CHANGES; i++) {
            if (river.fineBySort(trial, i % 2 == 0 ? CLOSE : OPEN)) {
                return false;
            }
            river.fade(trial, minutes);
        }
        return true;
    }

    // ---- texts

    public int put(long characters) {
        int added = charactersIn(characters);
        if (added == 0) {
            return BAD_VALUE;
        }
        if (pad.length + added > PAD_SIZE) {
            return TOO_MANY;
        }
        pad.append(characters, added);
        return pad.length;
    }

    /** How many characters a number gives; 0 if it gives none, or is not allowed. */
    private static int charactersIn(long characters) {
        int length = 0;
        for (long rest = characters; rest != 0 && length < CHARACTERS_AT_ONCE; rest >>>= 8) {
            int code = (int) (rest & 255);
            if (code < LEAST_CODE || code > MOST_CODE) {
                return 0;
            }
            length++;
        }
        return length;
    }

    public int wipe() {
        return pad.clear();
    }

    public int fault() {
        return pad.findFault();
    }

    public int carryOut() {
        if (pad.findFault() != NONE) {
            return BAD_TEXT;
        }
        keepState();
        int carriedOut = 0;
        pad.startReading();
        for (int i = 0; i < PAD_SIZE && pad.readOrder(); i++) {
            if (carryOutOne() < 0) {
                break;
            }
            carriedOut++;
            if (!pad.readSign(';')) {
                break;
            }
        }
        pad.clear();
        return recordUnlessError(carriedOut);
    }

    private int carryOutOne() {
        switch (pad.orderSign) {
            case '+':
                return river.addLanding(pad.orderNumber);
            case 'o':
                return river.openLanding(pad.orderLanding);
            case 'c':
                return river.closeLanding(pad.orderLanding);
            case 'p':
                return river.changePrice(pad.orderLanding, pad.orderNumber);
            default:
                return river.passMinutes(pad.orderNumber);
        }
    }

    // ---- undo, saving

    public int undo() {
        if (historySize < 1) {
            return NOT_POSSIBLE;
        }
        historySize--;
        river.copyFrom(history[historySize]);
        return historySize;
    }

    public int save(int slot) {
        if (slot < 0 || slot >= SLOTS) {
            return BAD_VALUE;
        }
        slots[slot].copyFrom(river);
        slotUsed[slot] = true;
        return river.landingCount;
    }

    public int restore(int slot) {
        if (slot < 0 || slot >= SLOTS) {
            return BAD_VALUE;
        }
        if (!slotUsed[slot]) {
            return NOT_POSSIBLE;
        }
        keepState();
        river.copyFrom(slots[slot]);
        return recordUnlessError(river.landingCount);
    }

    private void keepState() {
        history[historySize].copyFrom(river);
    }

    /** Takes the state of keepState() into the history, if the answer is no error, and returns the answer. */
    private int recordUnlessError(int answer) {
        if (answer < 0) {
            return answer;
        }
        if (historySize < HISTORY_SIZE) {
            historySize++;
        } else {
            dropOldest();
        }
        return answer;
    }

    private void dropOldest() {
        River oldest = history[0];
        for (int i = 0; i < HISTORY_SIZE; i++) {
            history[i] = history[i + 1];
        }
        history[HISTORY_SIZE] = oldest;
    }

    /** One landing; nothing in it knows of the others. */
    private static final class Landing {
        boolean isOpen;
        int fare;
        int fine;
        boolean isShunned;
        int minutesShunned;
        int minutesSinceHalving;
        int changes;
        int timesShunned;

        void arrive(int newFare) {
            isOpen = true;
            fare = newFare;
            fine = 0;
            isShunned = false;
            minutesShunned = 0;
            minutesSinceHalving = 0;
            changes = 0;
            timesShunned = 0;
        }

        void copyFrom(Landing other) {
            isOpen = other.isOpen;
            fare = other.fare;
            fine = other.fine;
            isShunned = other.isShunned;
            minutesShunned = other.minutesShunned;
            minutesSinceHalving = other.minutesSinceHalving;
            changes = other.changes;
            timesShunned = other.timesShunned;
        }

        boolean canBeTaken() {
            return isOpen && !isShunned;
        }

        /** Adds the fine of a change; returns whether the landing is shunned by that. */
        boolean addFine(int more, int above) {
            changes++;
            fine = Math.min(fine + more, MOST_FINE);
            if (isShunned || fine <= above) {
                return false;
            }
            isShunned = true;
            minutesShunned = 0;
            timesShunned++;
            return true;
        }

        /** Lets a minute pass; returns whether the landing becomes welcome again in it. */
        boolean passMinute(int half, int below, int longest) {
            minutesSinceHalving++;
            if (minutesSinceHalving >= half) {
                fine /= 2;
                minutesSinceHalving = 0;
            }
            if (!isShunned) {
                return false;
            }
            minutesShunned++;
            if (fine >= below && minutesShunned < longest) {
                return false;
            }
            isShunned = false;
            minutesShunned = 0;
            fine = Math.min(fine, below - 1);
            return true;
        }

        int tell(int what) {
            switch (what) {
                case 0:
                    return isOpen ? 1 : 0;
                case 1:
                    return fare;
                case 2:
                    return fine;
                case 3:
                    return isShunned ? 1 : 0;
                case 4:
                    return minutesShunned;
                case 5:
                    return minutesSinceHalving;
                case 6:
                    return changes;
                case 7:
                    return timesShunned;
                default:
                    return BAD_VALUE;
            }
        }
    }

    /** The latest things that happened, in rows that are written round and round. */
    private static final class Journal {
        final int[] sorts = new int[LOG_SIZE];
        final int[] places = new int[LOG_SIZE];
        final int[] minutes = new int[LOG_SIZE];
        int size = 0;
        int next = 0;

        void add(int sort, int place, int minute) {
            sorts[next] = sort;
            places[next] = place;
            minutes[next] = minute;
            next = next + 1 < LOG_SIZE ? next + 1 : 0;
            size = Math.min(size + 1, LOG_SIZE);
        }

        int tell(int ago, int what) {
            if (ago < 0 || ago >= size) {
                return NO_SUCH;
            }
            int row = next - 1 - ago;
            if (row < 0) {
                row += LOG_SIZE;
            }
            switch (what) {
                case 0:
                    return sorts[row];
                case 1:
                    return places[row];
                case 2:
                    return minutes[row];
                default:
                    return BAD_VALUE;
            }
        }

        void copyFrom(Journal other) {
            System.arraycopy(other.sorts, 0, sorts, 0, LOG_SIZE);
            System.arraycopy(other.places, 0, places, 0, LOG_SIZE);
            System.arraycopy(other.minutes, 0, minutes, 0, LOG_SIZE);
            size = other.size;
            next = other.next;
        }
    }

    /** All that is undone and saved: everything except the pad, the history and the slots. */
    private static final class River {
        final int[] settings = FIRST_SETTING.clone();
        final Landing[] landings = new Landing[MOST_LANDINGS];
        int landingCount = 0;
        int minutesSoFar = 0;
        int taken = NONE;
        int switches = 0;
        final Journal journal = new Journal();

        River() {
            for (int i = 0; i < landings.length; i++) {
                landings[i] = new Landing();
            }
        }

        void copyFrom(River other) {
            System.arraycopy(other.settings, 0, settings, 0, settings.length);
            for (int i = 0; i < landings.length; i++) {
                landings[i].copyFrom(other.landings[i]);
            }
            landingCount = other.landingCount;
            minutesSoFar = other.minutesSoFar;
            taken = other.taken;
            switches = other.switches;
            journal.copyFrom(other.journal);
        }

        /** The landing with this number, or null. */
        Landing find(int number) {
            return number < 0 || number >= landingCount ? null : landings[number];
        }

        int changeSetting(int setting, int value) {
            if (setting < 0 || setting >= settings.length) {
                return BAD_VALUE;
            }
            if (value < LEAST_SETTING[setting] || value > MOST_SETTING[setting]) {
                return BAD_VALUE;
            }
            int previous = settings[setting];
            settings[setting] = value;
            return previous;
        }

        int addLanding(int fare) {
            if (fare < 0 || fare > MOST_PRICE) {
                return BAD_VALUE;
            }
            if (landingCount >= MOST_LANDINGS) {
                return TOO_MANY;
            }
            landings[landingCount].arrive(fare);
            landingCount++;
            followTaken();
            return landingCount - 1;
        }

        int openLanding(int number) {
            Landing one = find(number);
            if (one == null) {
                return NO_SUCH;
            }
            if (one.isOpen) {
                return NOT_POSSIBLE;
            }
            one.isOpen = true;
            return finishChange(one, number, OPEN);
        }

        int closeLanding(int number) {
            Landing one = find(number);
            if (one == null) {
                return NO_SUCH;
            }
            if (!one.isOpen) {
                return NOT_POSSIBLE;
            }
            one.isOpen = false;
            return finishChange(one, number, CLOSE);
        }

        int changePrice(int number, int fare) {
            Landing one = find(number);
            if (one == null) {
                return NO_SUCH;
            }
            if (fare < 0 || fare > MOST_PRICE) {
                return BAD_VALUE;
            }
            if (one.fare == fare) {
                return NOT_POSSIBLE;
            }
            one.fare = fare;
            return finishChange(one, number, TURN);
        }

        int finishChange(Landing one, int number, int sort) {
            journal.add(sort, number, minutesSoFar);
            if (fineBySort(one, sort)) {
                journal.add(SHUNNED, number, minutesSoFar);
            }
            followTaken();
            return one.fine;
        }

        /** Fines a landing by the sort of its change; returns whether it is shunned by that. */
        boolean fineBySort(Landing one, int sort) {
            return one.addFine(settings[sort], settings[ABOVE]);
        }

        int passMinutes(int minutes) {
            if (minutes < 1 || minutes > MOST_PASSING) {
                return BAD_VALUE;
            }
            if (minutesSoFar + minutes > MOST_MINUTES) {
                return NOT_POSSIBLE;
            }
            int welcomed = 0;
            for (int i = 0; i < minutes; i++) {
                welcomed += passOneMinute();
            }
            return welcomed;
        }

        /** Lets a minute pass for all landings; returns how many become welcome again in it. */
        int passOneMinute() {
            minutesSoFar++;
            int welcomed = 0;
            for (int i = 0; i < landingCount; i++) {
                if (passMinuteOf(landings[i])) {
                    journal.add(WELCOME, i, minutesSoFar);
                    welcomed++;
                }
            }
            // A minute makes another landing the one that is taken only by welcoming one.
            if (welcomed > 0) {
                followTaken();
            }
            return welcomed;
        }

        boolean passMinuteOf(Landing one) {
            return one.passMinute(settings[HALF], settings[BELOW], settings[LONGEST]);
        }

        /** Lets minutes pass for a welcome landing whose latest halving is less than HALF ago. */
        void fade(Landing one, int minutes) {
            int half = Math.max(1, settings[HALF]);
            int since = one.minutesSinceHalving + minutes;
            one.fine >>= Math.min(since / half, MOST_SHIFT);
            one.minutesSinceHalving = since % half;
        }

        /** Looks which landing is taken now, and counts a switch if it is another one. */
        void followTaken() {
            int best = NONE;
            for (int i = 0; i < landingCount; i++) {
                if (landings[i].canBeTaken() && (best < 0 || landings[i].fare < landings[best].fare)) {
                    best = i;
                }
            }
            if (best != taken) {
                taken = best;
                switches++;
            }
        }

        int chosen(int rank) {
            for (int i = 0; i < landingCount; i++) {
                if (landings[i].canBeTaken() && rankOf(i) == rank) {
                    return i;
                }
            }
            return NO_SUCH;
        }

        /** How many landings that can be taken come ahead of this one. */
        int rankOf(int number) {
            int ahead = 0;
            int fare = landings[number].fare;
            for (int i = 0; i < landingCount; i++) {
                Landing other = landings[i];
                if (other.canBeTaken() && (other.fare < fare || other.fare == fare && i < number)) {
                    ahead++;
                }
            }
            return ahead;
        }

        int tell(int what) {
            switch (what) {
                case 0:
                    return minutesSoFar;
                case 1:
                    return landingCount;
                case 2:
                    return openOnes();
                case 3:
                    return shunnedOnes();
                case 4:
                    return taken;
                case 5:
                    return switches;
                case 6:
                    return journal.size;
                default:
                    return what >= 7 && what - 7 < settings.length ? settings[what - 7] : BAD_VALUE;
            }
        }

        int openOnes() {
            int mask = 0;
            for (int i = 0; i < landingCount; i++) {
                if (landings[i].isOpen) {
                    mask |= 1 << i;
                }
            }
            return mask;
        }

        int shunnedOnes() {
            int mask = 0;
            for (int i = 0; i < landingCount; i++) {
                if (landings[i].isShunned) {
                    mask |= 1 << i;
                }
            }
            return mask;
        }
    }

    /** The text of orders, and a reader that stops at the first character that cannot stand at its place. */
    private static final class Pad {
        final char[] signs = new char[PAD_SIZE];
        int length = 0;
        int place = 0;
        char orderSign = ' ';
        int orderLanding = 0;
        int orderNumber = 0;

        void append(long characters, int added) {
            for (int i = added - 1; i >= 0 && length < PAD_SIZE; i--) {
                signs[length] = (char) ((characters >>> (8 * i)) & 255);
                length++;
            }
        }

        int clear() {
            int before = length;
            length = 0;
            return before;
        }

        int findFault() {
            startReading();
            for (int i = 0; i < PAD_SIZE && readOrder(); i++) {
                if (!readSign(';')) {
                    return place == length ? NONE : place;
                }
            }
            return place;
        }

        void startReading() {
            place = 0;
        }

        /** Reads an order; if it has a fault, returns false and stays at the fault. */
        boolean readOrder() {
            if (place >= length) {
                return false;
            }
            orderSign = signs[place];
            switch (orderSign) {
                case '+':
                case 't':
                    place++;
                    return readNumber();
                case 'o':
                case 'c':
                    place++;
                    return readLanding();
                case 'p':
                    place++;
                    return readLanding() && readSign('=') && readNumber();
                default:
                    return false;
            }
        }

        boolean readSign(char sign) {
            if (place >= length || signs[place] != sign) {
                return false;
            }
            place++;
            return true;
        }

        boolean readLanding() {
            if (!isAtDigit()) {
                return false;
            }
            orderLanding = signs[place] - '0';
            place++;
            return true;
        }

        boolean readNumber() {
            if (!isAtDigit()) {
                return false;
            }
            orderNumber = 0;
            // Behind a leading zero no digit can stand, so a zero ends the number.
            for (int i = 0; i < DIGITS_OF_NUMBER && isAtDigit() && (i == 0 || orderNumber > 0); i++) {
                orderNumber = orderNumber * 10 + signs[place] - '0';
                place++;
            }
            return true;
        }

        boolean isAtDigit() {
            return place < length && signs[place] >= '0' && signs[place] <= '9';
        }
    }
}
