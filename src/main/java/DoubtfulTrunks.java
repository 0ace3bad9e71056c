/**
 * A customs desk where a trunk is opened only if both its papers disagree.
 * What each call promises stands in the project's document; an error is an answer.
 */
public final class DoubtfulTrunks {
    public static final int NO_SUCH = -1, BAD_VALUE = -2, BAD_TEXT = -3, TOO_MANY = -4, NOT_POSSIBLE = -5, NONE = -6;
    public static final int SMALL = 0, FEE = 1, FINE = 2, DELAY = 3, TARE = 4, OPENS = 5;

    private static final int[] LEAST_SETTINGS = {0, 0, 0, 0, 0, 1};
    private static final int[] MOST_SETTINGS = {200, 50, 90, 20, 9, 4};
    private static final int SETTINGS = 6;

    private static final int KINDS = 6;
    private static final int MOST_WEIGHT = 9;
    private static final int COUNTRIES = 5;
    private static final int MOST_TRUST = 9;

    private static final int DESKS = 3;
    private static final int TOP_DESK = 2;
    private static final int MOST_HANDS = 3;
    private static final int MOST_WAITING = 16;

    private static final int UPPER = 0;
    private static final int LOWER = 1;
    private static final int TRUTH = 2;
    private static final int PAPERS = 3;
    private static final int MOST_PIECES = 9;
    private static final int MOST_TRUNKS = 64;

    private static final int WAITING = 0;
    private static final int PASSED = 1;
    private static final int OPENED = 2;
    private static final int SENT_BACK = 3;

    private static final int MOST_TURNS = 9999;
    private static final int MOST_TURNS_A_CALL = 99;
    private static final int TURNS_FORESEEN = 200;
    private static final int TURNS_OF_A_HAND = 5;

    private static final int PAD_SIZE = 60;
    private static final int SIGNS_A_CALL = 8;
    private static final int FIRST_SIGN = 33;
    private static final int LAST_SIGN = 126;

    private static final int MOST_UNDONE = 4;
    private static final int SLOTS = 2;

    private final State now = new State();
    // The what-if calls play on this one, so that they make no objects and leave the true state alone.
    private final State trial = new State();
    private final History history = new History();
    private final State[] slots = {new State(), new State()};
    private final boolean[] filled = new boolean[SLOTS];
    private final Pad pad = new Pad();

    public DoubtfulTrunks() {
    }

    // ---- changes

    public int set(int setting, int value) {
        if (!isWithin(setting, 0, SETTINGS - 1)) {
            return BAD_VALUE;
        }
        if (!isWithin(value, LEAST_SETTINGS[setting], MOST_SETTINGS[setting])) {
            return BAD_VALUE;
        }
        history.keep(now);
        int previous = now.settings[setting];
        now.settings[setting] = value;
        return previous;
    }

    public int weight(int kind, int weight) {
        if (!isWithin(kind, 0, KINDS - 1)) {
            return NO_SUCH;
        }
        if (!isWithin(weight, 1, MOST_WEIGHT)) {
            return BAD_VALUE;
        }
        history.keep(now);
        int previous = now.weights[kind];
        now.weights[kind] = weight;
        return previous;
    }

    public int trust(int country, int trust) {
        if (!isWithin(country, 0, COUNTRIES - 1)) {
            return NO_SUCH;
        }
        if (!isWithin(trust, 0, MOST_TRUST)) {
            return BAD_VALUE;
        }
        history.keep(now);
        int previous = now.trusts[country];
        now.trusts[country] = trust;
        return previous;
    }

    public int hands(int desk, int hands) {
        if (!isWithin(desk, 0, DESKS - 1)) {
            return NO_SUCH;
        }
        if (!isWithin(hands, 0, MOST_HANDS)) {
            return BAD_VALUE;
        }
        history.keep(now);
        int previous = now.desks[desk].handCount;
        now.desks[desk].handCount = hands;
        return previous;
    }

    public int read() {
        if (pad.findFault() != NONE) {
            return BAD_TEXT;
        }
        if (now.waitingTrunks() >= MOST_WAITING || now.trunks.came >= MOST_TRUNKS) {
            return TOO_MANY;
        }
        history.keep(now);
        int trunk = now.admit(pad.country, pad.papers);
        pad.length = 0;
        return trunk;
    }

    public int mend(int trunk, int paper, int kind, int pieces) {
        if (!now.isWaiting(trunk) || !isWithin(kind, 0, KINDS - 1)) {
            return NO_SUCH;
        }
        if (!isWithin(paper, UPPER, LOWER) || !isWithin(pieces, 0, MOST_PIECES)) {
            return BAD_VALUE;
        }
        history.keep(now);
        int[] sheets = now.trunks.papers[paper];
        sheets[trunk] = Sheet.withPieces(sheets[trunk], kind, pieces);
        return now.doubtOf(trunk);
    }

    public int sendBack(int trunk) {
        if (!now.isWaiting(trunk)) {
            return NO_SUCH;
        }
        history.keep(now);
        int desk = now.deskOf(trunk);
        if (desk != NONE) {
            now.desks[desk].dismiss(trunk);
        }
        now.trunks.fates[trunk] = SENT_BACK;
        return now.trunks.accounts[trunk];
    }

    public int turn(int turns) {
        if (!isWithin(turns, 1, MOST_TURNS_A_CALL)) {
            return BAD_VALUE;
        }
        if (now.turnsMade + turns > MOST_TURNS) {
            return TOO_MANY;
        }
        history.keep(now);
        return now.makeTurns(turns);
    }

    // ---- what there is; nothing changes

    public int trunk(int trunk, int what) {
        if (!now.hasCome(trunk)) {
            return NO_SUCH;
        }
        Trunks trunks = now.trunks;
        switch (what) {
            case 0: return trunks.countries[trunk];
            case 1: return now.deskOf(trunk);
            case 2: return now.placeOf(trunk);
            case 3: return now.doubtOf(trunk);
            case 4: return trunks.disagreements(trunk, now.settings[TARE]);
            case 5: return trunks.accounts[trunk];
            case 6: return trunks.arrivals[trunk];
            case 7: return trunks.fates[trunk];
            case 8: return trunks.finedKinds[trunk];
            case 9: return trunks.handOns[trunk];
            default: return BAD_VALUE;
        }
    }

    public int pieces(int trunk, int paper, int kind) {
        if (!now.hasCome(trunk) || !isWithin(kind, 0, KINDS - 1)) {
            return NO_SUCH;
        }
        if (!isWithin(paper, UPPER, TRUTH)) {
            return BAD_VALUE;
        }
        return Sheet.piecesOf(now.trunks.papers[paper][trunk], kind);
    }

    public int alike(int trunk, int way) {
        if (!now.hasCome(trunk)) {
            return NO_SUCH;
        }
        int tare = now.settings[TARE];
        switch (way) {
            case 0: return now.trunks.disagreements(trunk, tare) == 0 ? 1 : 0;
            case 1: return now.trunks.sumBeyond(trunk, tare) == 0 ? 1 : 0;
            default: return BAD_VALUE;
        }
    }

    public int desk(int desk, int what) {
        if (!isWithin(desk, 0, DESKS - 1)) {
            return NO_SUCH;
        }
        switch (what) {
            case 0: return now.desks[desk].handCount;
            case 1: return now.desks[desk].waiting;
            case 2: return now.doubtsAt(desk);
            case 3: return now.desks[desk].looks;
            case 4: return now.desks[desk].passes;
            default: return BAD_VALUE;
        }
    }

    public int count(int what) {
        if (isWithin(what, 0, SETTINGS - 1)) {
            return now.settings[what];
        }
        switch (what) {
            case 6: return now.turnsMade;
            case 7: return now.trunks.came;
            case 8: return now.waitingTrunks();
            case 9: return now.trunks.countWithFate(PASSED);
            case 10: return now.trunks.countWithFate(OPENED);
            case 11: return now.trunks.countWithFate(SENT_BACK);
            case 12: return now.fees;
            case 13: return now.fines;
            case 14: return now.delays;
            case 15: return now.taken();
            case 16: return now.trunks.countOpenedUnfined();
            case 17: return pad.length;
            case 18: return history.size;
            default: return BAD_VALUE;
        }
    }

    // ---- what if; nothing changes

    public int untilGone(int trunk) {
        return now.hasCome(trunk) ? turnsUntilGone(trunk) : NO_SUCH;
    }

    public int fate(int trunk) {
        if (!now.hasCome(trunk)) {
            return NO_SUCH;
        }
        return turnsUntilGone(trunk) == NONE ? NONE : trial.trunks.fates[trunk];
    }

    public int mostDoubted() {
        int found = NONE;
        int most = -1;
        for (int trunk = 0; trunk < now.trunks.came; trunk++) {
            if (now.isWaiting(trunk) && now.doubtOf(trunk) > most) {
                found = trunk;
                most = now.doubtOf(trunk);
            }
        }
        return found;
    }

    public int ifTurned(int turns, int what) {
        if (!isWithin(turns, 1, TURNS_FORESEEN) || !isWithin(what, 0, 2)) {
            return BAD_VALUE;
        }
        trial.copyFrom(now);
        int passed = trial.makeTurns(turns);
        switch (what) {
            case 0: return passed;
            case 1: return trial.trunks.countWithFate(OPENED) - now.trunks.countWithFate(OPENED);
            default: return trial.taken() - now.taken();
        }
    }

    public int bestHand() {
        trial.copyFrom(now);
        int most = trial.makeTurns(TURNS_OF_A_HAND);
        int best = NONE;
        for (int desk = 0; desk < DESKS; desk++) {
            trial.copyFrom(now);
            // A desk that gets no more hands makes as many pass as now, and so is not found.
            trial.desks[desk].handCount = Math.min(MOST_HANDS, now.desks[desk].handCount + 1);
            int passed = trial.makeTurns(TURNS_OF_A_HAND);
            if (passed > most) {
                best = desk;
                most = passed;
            }
        }
        return best;
    }

    public int leastSmall() {
        int least = 0;
        // A hand that finds trunks settles at least one a turn, so 200 turns bring
        // each of the 16 as far up as there are hands: no turn need be played.
        for (int desk = TOP_DESK; desk >= 0 && now.desks[desk].handCount > 0; desk--) {
            int doubt = now.greatestDoubtAt(desk);
            if (desk == TOP_DESK && doubt > 0) {
                return NONE;
            }
            // The desk below the top one is the last that takes a fee, at TOP_DESK times SMALL.
            least = Math.max(least, (doubt + TOP_DESK - 1) / TOP_DESK);
        }
        return least <= MOST_SETTINGS[SMALL] ? least : NONE;
    }

    // ---- texts

    public int put(long characters) {
        int signs = 0;
        long rest = characters;
        while (signs < SIGNS_A_CALL && (rest & 255) != 0) {
            if (!isWithin((int) (rest & 255), FIRST_SIGN, LAST_SIGN)) {
                return BAD_VALUE;
            }
            rest >>>= 8;
            signs++;
        }
        if (signs == 0 || rest != 0) {
            return BAD_VALUE;
        }
        if (pad.length + signs > PAD_SIZE) {
            return TOO_MANY;
        }
        for (int later = signs - 1; later >= 0; later--) {
            pad.append((char) ((characters >>> (8 * later)) & 255));
        }
        return pad.length;
    }

    public int wipe() {
        int previous = pad.length;
        pad.length = 0;
        return previous;
    }

    public int fault() {
        return pad.findFault();
    }

    // ---- undo, saving

    public int undo() {
        if (history.size == 0) {
            return NOT_POSSIBLE;
        }
        history.takeBack(now);
        return history.size;
    }

    public int save(int slot) {
        if (!isWithin(slot, 0, SLOTS - 1)) {
            return BAD_VALUE;
        }
        slots[slot].copyFrom(now);
        filled[slot] = true;
        return now.turnsMade;
    }

    public int restore(int slot) {
        if (!isWithin(slot, 0, SLOTS - 1)) {
            return BAD_VALUE;
        }
        if (!filled[slot]) {
            return NOT_POSSIBLE;
        }
        history.keep(now);
        now.copyFrom(slots[slot]);
        return now.turnsMade;
    }

    // ---- helpers

    private static boolean isWithin(int value, int least, int most) {
        return value >= least && value <= most;
    }

    /** Plays turns on the trial state, and leaves it as it is when the trunk is gone. */
    private int turnsUntilGone(int trunk) {
        trial.copyFrom(now);
        for (int turns = 0; turns <= TURNS_FORESEEN; turns++) {
            if (!trial.isWaiting(trunk)) {
                return turns;
            }
            trial.makeTurn();
        }
        return NONE;
    }

    /**
     * The pieces of all kinds on one paper, in one number: a state is copied at each change
     * and each what-if call, and so has a sixth of the elements.
     */
    private static final class Sheet {
        private static final int BITS = 4;
        private static final int MASK = 15;

        static int piecesOf(int sheet, int kind) {
            return (sheet >> (kind * BITS)) & MASK;
        }

        static int withPieces(int sheet, int kind, int pieces) {
            return (sheet & ~(MASK << (kind * BITS))) | (pieces << (kind * BITS));
        }
    }

    /** All trunks that came, a row for each thing that is known of them. */
    private static final class Trunks {
        int came;
        final int[] countries = new int[MOST_TRUNKS];
        final int[][] papers = new int[PAPERS][MOST_TRUNKS];
        final int[] accounts = new int[MOST_TRUNKS];
        final int[] arrivals = new int[MOST_TRUNKS];
        final int[] fates = new int[MOST_TRUNKS];
        final int[] finedKinds = new int[MOST_TRUNKS];
        final int[] handOns = new int[MOST_TRUNKS];

        /** The rows may hold what an undone trunk left, so each is written anew. */
        void add(int country, int[] sheets, int arrival) {
            countries[came] = country;
            for (int paper = 0; paper < PAPERS; paper++) {
                papers[paper][came] = sheets[paper];
            }
            accounts[came] = 0;
            arrivals[came] = arrival;
            fates[came] = WAITING;
            finedKinds[came] = 0;
            handOns[came] = 0;
            came++;
        }

        int difference(int trunk, int kind) {
            int upper = Sheet.piecesOf(papers[UPPER][trunk], kind);
            int lower = Sheet.piecesOf(papers[LOWER][trunk], kind);
            return Math.abs(upper - lower);
        }

        int disagreements(int trunk, int tare) {
            int kinds = 0;
            for (int kind = 0; kind < KINDS; kind++) {
                if (difference(trunk, kind) > tare) {
                    kinds |= 1 << kind;
                }
            }
            return kinds;
        }

        int sumBeyond(int trunk, int tare) {
            int sum = 0;
            for (int kind = 0; kind < KINDS; kind++) {
                sum += Math.max(0, difference(trunk, kind) - tare);
            }
            return sum;
        }

        /** Kinds of which the trunk has more than the paper that declares the more. */
        int hiddenKinds(int trunk) {
            int kinds = 0;
            for (int kind = 0; kind < KINDS; kind++) {
                int upper = Sheet.piecesOf(papers[UPPER][trunk], kind);
                int lower = Sheet.piecesOf(papers[LOWER][trunk], kind);
                if (Sheet.piecesOf(papers[TRUTH][trunk], kind) > Math.max(upper, lower)) {
                    kinds |= 1 << kind;
                }
            }
            return kinds;
        }

        int countWithFate(int fate) {
            int found = 0;
            for (int trunk = 0; trunk < came; trunk++) {
                if (fates[trunk] == fate) {
                    found++;
                }
            }
            return found;
        }

        int countOpenedUnfined() {
            int found = 0;
            for (int trunk = 0; trunk < came; trunk++) {
                if (fates[trunk] == OPENED && finedKinds[trunk] == 0) {
                    found++;
                }
            }
            return found;
        }

        /** What stands behind the trunks that came is never looked at, and so is not copied. */
        void copyFrom(Trunks other) {
            came = other.came;
            System.arraycopy(other.countries, 0, countries, 0, came);
            for (int paper = 0; paper < PAPERS; paper++) {
                System.arraycopy(other.papers[paper], 0, papers[paper], 0, came);
            }
            System.arraycopy(other.accounts, 0, accounts, 0, came);
            System.arraycopy(other.arrivals, 0, arrivals, 0, came);
            System.arraycopy(other.fates, 0, fates, 0, came);
            System.arraycopy(other.finedKinds, 0, finedKinds, 0, came);
            System.arraycopy(other.handOns, 0, handOns, 0, came);
        }
    }

    private static final class Desk {
        final int[] queue = new int[MOST_WAITING];
        int waiting;
        int handCount = 1;
        int looks;
        int passes;

        void append(int trunk) {
            if (waiting < MOST_WAITING) {
                queue[waiting] = trunk;
                waiting++;
            }
        }

        int placeOf(int trunk) {
            for (int place = 0; place < waiting; place++) {
                if (queue[place] == trunk) {
                    return place;
                }
            }
            return NONE;
        }

        void dismiss(int trunk) {
            int place = placeOf(trunk);
            if (place == NONE) {
                return;
            }
            waiting--;
            for (int later = place; later < waiting; later++) {
                queue[later] = queue[later + 1];
            }
        }

        void copyFrom(Desk other) {
            System.arraycopy(other.queue, 0, queue, 0, MOST_WAITING);
            waiting = other.waiting;
            handCount = other.handCount;
            looks = other.looks;
            passes = other.passes;
        }
    }

    /** Everything that undo, save and restore bring back. */
    private static final class State {
        final int[] settings = {10, 5, 20, 1, 0, 1};
        final int[] weights = {1, 2, 3, 4, 5, 6};
        final int[] trusts = {5, 5, 5, 5, 5};
        final Desk[] desks = {new Desk(), new Desk(), new Desk()};
        final Trunks trunks = new Trunks();
        int turnsMade;
        int fees;
        int fines;
        int delays;

        boolean hasCome(int trunk) {
            return trunk >= 0 && trunk < trunks.came;
        }

        boolean isWaiting(int trunk) {
            return hasCome(trunk) && trunks.fates[trunk] == WAITING;
        }

        int waitingTrunks() {
            int sum = 0;
            for (int desk = 0; desk < DESKS; desk++) {
                sum += desks[desk].waiting;
            }
            return sum;
        }

        int taken() {
            return fees + fines + delays;
        }

        int deskOf(int trunk) {
            for (int desk = 0; desk < DESKS; desk++) {
                if (desks[desk].placeOf(trunk) != NONE) {
                    return desk;
                }
            }
            return NONE;
        }

        int placeOf(int trunk) {
            int desk = deskOf(trunk);
            return desk == NONE ? NONE : desks[desk].placeOf(trunk);
        }

        /** Weights are at least 1, so a sum of 0 means that the papers are alike. */
        int doubtOf(int trunk) {
            int sum = 0;
            for (int kind = 0; kind < KINDS; kind++) {
                int difference = trunks.difference(trunk, kind);
                if (difference > settings[TARE]) {
                    sum += difference * weights[kind];
                }
            }
            return sum == 0 ? 0 : sum + MOST_TRUST - trusts[trunks.countries[trunk]];
        }

        int doubtsAt(int desk) {
            int sum = 0;
            for (int place = 0; place < desks[desk].waiting; place++) {
                sum += doubtOf(desks[desk].queue[place]);
            }
            return sum;
        }

        int greatestDoubtAt(int desk) {
            int greatest = 0;
            for (int place = 0; place < desks[desk].waiting; place++) {
                greatest = Math.max(greatest, doubtOf(desks[desk].queue[place]));
            }
            return greatest;
        }

        /** The caller has seen to it that one more has room. */
        int admit(int country, int[] sheets) {
            int trunk = trunks.came;
            trunks.add(country, sheets, turnsMade);
            desks[0].append(trunk);
            return trunk;
        }

        int makeTurns(int turns) {
            int passed = 0;
            for (int made = 0; made < turns; made++) {
                passed += makeTurn();
            }
            return passed;
        }

        int makeTurn() {
            int waitedBefore = waitingTrunks();
            actAtTop();
            for (int desk = TOP_DESK - 1; desk >= 0; desk--) {
                actBelowTop(desk);
            }
            takeDelays();
            turnsMade++;
            return waitedBefore - waitingTrunks();
        }

        private void actAtTop() {
            Desk top = desks[TOP_DESK];
            int opened = 0;
            for (int hand = 0; hand < top.handCount && top.waiting > 0; hand++) {
                int trunk = top.queue[0];
                top.looks++;
                if (doubtOf(trunk) == 0) {
                    letPass(trunk, top, PASSED);
                } else if (opened < settings[OPENS]) {
                    fine(trunk);
                    letPass(trunk, top, OPENED);
                    opened++;
                } else {
                    return;
                }
            }
        }

        private void actBelowTop(int desk) {
            Desk acting = desks[desk];
            for (int hand = 0; hand < acting.handCount && acting.waiting > 0; hand++) {
                int trunk = acting.queue[0];
                int doubt = doubtOf(trunk);
                acting.looks++;
                if (doubt == 0) {
                    letPass(trunk, acting, PASSED);
                } else if (doubt <= settings[SMALL] * (desk + 1)) {
                    takeFee(trunk);
                    letPass(trunk, acting, PASSED);
                } else {
                    acting.dismiss(trunk);
                    desks[desk + 1].append(trunk);
                    trunks.handOns[trunk]++;
                }
            }
        }

        private void letPass(int trunk, Desk desk, int fate) {
            desk.dismiss(trunk);
            desk.passes++;
            trunks.fates[trunk] = fate;
        }

        private void takeFee(int trunk) {
            trunks.accounts[trunk] += settings[FEE];
            fees += settings[FEE];
        }

        private void fine(int trunk) {
            int kinds = trunks.hiddenKinds(trunk);
            int coins = settings[FINE] * Integer.bitCount(kinds);
            trunks.finedKinds[trunk] = kinds;
            trunks.accounts[trunk] += coins;
            fines += coins;
        }

        private void takeDelays() {
            for (int desk = 0; desk < DESKS; desk++) {
                for (int place = 0; place < desks[desk].waiting; place++) {
                    trunks.accounts[desks[desk].queue[place]] += settings[DELAY];
                    delays += settings[DELAY];
                }
            }
        }

        void copyFrom(State other) {
            System.arraycopy(other.settings, 0, settings, 0, SETTINGS);
            System.arraycopy(other.weights, 0, weights, 0, KINDS);
            System.arraycopy(other.trusts, 0, trusts, 0, COUNTRIES);
            for (int desk = 0; desk < DESKS; desk++) {
                desks[desk].copyFrom(other.desks[desk]);
            }
            trunks.copyFrom(other.trunks);
            turnsMade = other.turnsMade;
            fees = other.fees;
            fines = other.fines;
            delays = other.delays;
        }
    }

    /** The states before the latest changes, in a ring whose rows are used again. */
    private static final class History {
        private final State[] rows = {new State(), new State(), new State(), new State()};
        private int oldest;
        int size;

        void keep(State state) {
            rows[(oldest + size) % MOST_UNDONE].copyFrom(state);
            if (size < MOST_UNDONE) {
                size++;
            } else {
                oldest = (oldest + 1) % MOST_UNDONE;
            }
        }

        /** The caller has seen to it that there is one. */
        void takeBack(State state) {
            size--;
            state.copyFrom(rows[(oldest + size) % MOST_UNDONE]);
        }
    }

    /** The text that is put together, and the trunk that it told when it was last looked through. */
    private static final class Pad {
        final char[] signs = new char[PAD_SIZE];
        int length;
        int country;
        final int[] papers = new int[PAPERS];
        private int at;

        void append(char sign) {
            if (length < PAD_SIZE) {
                signs[length] = sign;
                length++;
            }
        }

        /** Where the text ends too early, the place that is reached is its length, as the fault is then. */
        int findFault() {
            at = 0;
            if (!isNext('0', '4')) {
                return at;
            }
            country = signs[at] - '0';
            at++;
            if (!skips(':') || !readPaper(UPPER) || !skips('/') || !readPaper(LOWER)) {
                return at;
            }
            if (at == length) {
                papers[TRUTH] = papers[UPPER];
                return NONE;
            }
            if (!skips('=') || !readPaper(TRUTH) || at < length) {
                return at;
            }
            return NONE;
        }

        private boolean isNext(char first, char last) {
            return at < length && signs[at] >= first && signs[at] <= last;
        }

        private boolean skips(char sign) {
            if (!isNext(sign, sign)) {
                return false;
            }
            at++;
            return true;
        }

        /** Tells whether each letter had its digit; the sign behind the paper is not this one's matter. */
        private boolean readPaper(int paper) {
            int sheet = 0;
            char least = 'a';
            for (int parts = 0; parts < KINDS && isNext(least, 'f'); parts++) {
                char letter = signs[at];
                at++;
                if (!isNext('1', '9')) {
                    return false;
                }
                sheet = Sheet.withPieces(sheet, letter - 'a', signs[at] - '0');
                at++;
                least = (char) (letter + 1);
            }
            papers[paper] = sheet;
            return true;
        }
    }
}
