import java.util.Arrays;

/**
 * A plain along a river: villages with ponds, crops, loans of water, and floods
 * that the river lends. What each call answers stands in the document; words in
 * capitals are those of its terms.
 */
public final class FloodLent {
    public static final int NONE = -1;

    private static final int NO_SUCH = -2;
    private static final int TOO_FEW = -3;
    private static final int FAULTY = -4;
    private static final int NOTHING = -6;
    private static final int BEYOND = -7;
    private static final int UNLIKE = -8;

    private static final int MOST_VILLAGES = 6;
    private static final int MOST_CROPS = 8;
    private static final int MOST_FLOODS = 3;
    private static final int MOST_LOANS = 8;
    private static final int MOST_WEEKS = 30;
    private static final int IMAGES = 3;
    private static final int SLOTS = 4;
    private static final int HUNDRED = 100;

    // The columns of what a PLAIN tells; those of a VILLAGE are numbered as village() numbers them.
    private static final int POND = 0;
    private static final int WATER = 1;
    private static final int FACE = 2;
    private static final int SEEP = 3;
    private static final int COST = 4;
    private static final int VILLAGE_COLUMNS = 5;
    private static final int GROWER = 0;
    private static final int DRINKS = 1;
    private static final int BRINGS = 2;
    private static final int FROM = 3;
    private static final int TO = 4;
    private static final int CROP_COLUMNS = 5;
    private static final int COMES = 0;
    private static final int CARRIES = 1;
    private static final int ODDS = 2;
    private static final int TAKER = 3;
    private static final int FLOOD_COLUMNS = 4;
    private static final int LENDER = 0;
    private static final int DEBTOR = 1;
    private static final int AMOUNT = 2;
    private static final int ON = 3;
    private static final int TILL = 4;
    private static final int LOAN_COLUMNS = 5;

    private static final int NOBODY = 9;
    private static final int SEVERAL = 99;
    private static final int LAWS = 3;
    private static final int MOST_SEED = 2000000000;
    private static final int MOST_YEARS = 20;
    private static final int MARK = 3;

    private final Tape tape;
    private final Scribe scribe;
    private final Plain now;
    private final Plain draft;
    private final Plain[] images;
    private final Slot[] slots;
    private final Year current;
    private final Outcomes outcomes;
    private final Debts debts;

    public FloodLent() {
        tape = new Tape();
        scribe = new Scribe(tape);
        now = new Plain();
        draft = new Plain();
        images = new Plain[IMAGES];
        slots = new Slot[SLOTS];
        current = new Year(now);
        outcomes = new Outcomes(now, current);
        debts = new Debts(now, current);
    }

    // ---- the TAPE and the PLAIN

    public int feed(int a, int b, int c, int d, int e) {
        if (!tape.hasPlaceFor(20)) {
            return NONE;
        }
        tape.append(a);
        tape.append(b);
        tape.append(c);
        tape.append(d);
        tape.append(e);
        return tape.length;
    }

    public int end(int n) {
        if (n < 0 || n > tape.length) {
            return NONE;
        }
        tape.length = n;
        return n;
    }

    public int plain() {
        boolean fine = scribe.reads(draft);
        tape.length = 0;
        if (!fine) {
            return FAULTY;
        }
        now.copy(draft);
        outcomes.forget();
        return now.lines;
    }

    public int fault(int what) {
        if (what == 0) {
            return scribe.fault;
        }
        return what == 1 ? scribe.place : NONE;
    }

    public int village(int village, int what) {
        if (!hasVillage(village) || what < 0 || what >= VILLAGE_COLUMNS) {
            return NO_SUCH;
        }
        return now.villages.at(village, what);
    }

    public int takes(int flood, int village) {
        if (!hasFlood(flood) || village != NONE && !hasVillage(village)) {
            return NO_SUCH;
        }
        int before = now.floods.at(flood, TAKER);
        now.floods.put(flood, TAKER, village);
        return before;
    }

    public int more(int n) {
        if (!hasPlain() || n < 0 || n > HUNDRED) {
            return NO_SUCH;
        }
        int before = now.more;
        now.more = n;
        outcomes.forget();
        return before;
    }

    public int count(int what) {
        switch (what) {
            case 0: return now.weeks;
            case 1: return now.villages.n;
            case 2: return now.crops.n;
            case 3: return now.floods.n;
            case 4: return now.loans.n;
            case 5: return now.lines;
            case 6: return tape.length;
            case 7: return now.more;
            case 8: return now.back;
            case 9: return slotsWithRows();
            default: return NONE;
        }
    }

    private int slotsWithRows() {
        int n = 0;
        for (int i = 0; i < SLOTS; i++) {
            if (slots[i] != null) {
                n++;
            }
        }
        return n;
    }

    private boolean hasPlain() {
        return now.lines > 0;
    }

    private boolean hasVillage(int village) {
        return now.villages.has(village);
    }

    private boolean hasFlood(int flood) {
        return now.floods.has(flood);
    }

    private boolean hasWeek(int week) {
        return week >= 0 && week < now.weeks;
    }

    // ---- the YEAR by TAKERS as they are

    private void goThroughYear() {
        current.begin();
        current.run();
    }

    public int water(int village, int week) {
        if (!hasVillage(village) || !hasWeek(week)) {
            return NO_SUCH;
        }
        goThroughYear();
        return current.waterBehind(village, week);
    }

    public int flood(int flood, int what) {
        if (!hasFlood(flood)) {
            return NO_SUCH;
        }
        goThroughYear();
        return account(current.taken[flood], current.floodOwed[flood], current.floodPaid[flood], what);
    }

    public int loan(int loan, int what) {
        if (!now.loans.has(loan)) {
            return NO_SUCH;
        }
        goThroughYear();
        return account(current.lent[loan], current.loanOwed[loan], current.loanPaid[loan], what);
    }

    /** Of water that was TAKEN or LENT, what a call asks. */
    private static int account(int got, int owed, int paid, int what) {
        switch (what) {
            case 0: return got;
            case 1: return owed;
            case 2: return paid;
            case 3: return owed - paid;
            default: return NO_SUCH;
        }
    }

    public int crop(int crop, int what) {
        if (!now.crops.has(crop)) {
            return NO_SUCH;
        }
        goThroughYear();
        switch (what) {
            case 0: return current.brought[crop];
            case 1: return current.dry[crop];
            case 2: return current.firstDry[crop];
            default: return NO_SUCH;
        }
    }

    public int sum(int what) {
        if (!hasPlain()) {
            return NO_SUCH;
        }
        goThroughYear();
        switch (what) {
            case 0: return together(current.brought);
            case 1: return together(current.floodOwed) - together(current.floodPaid);
            case 2: return together(current.loanOwed) - together(current.loanPaid);
            case 3: return current.sky;
            case 4: return current.sea;
            case 5: return current.drunk;
            case 6: return together(current.taken);
            case 7: return together(current.floodPaid);
            case 8: return together(current.water);
            default: return NO_SUCH;
        }
    }

    public int first() {
        if (!hasPlain()) {
            return NO_SUCH;
        }
        goThroughYear();
        return current.trouble;
    }

    private static int together(int[] numbers) {
        int all = 0;
        for (int number : numbers) {
            all += number;
        }
        return all;
    }

    // ---- BEST, WISE and HOPE

    public int best() {
        if (!hasPlain()) {
            return NO_SUCH;
        }
        outcomes.knowAll();
        int code = outcomes.bestCode();
        return code == NONE ? NONE : outcomes.broughtBy(code);
    }

    public int taker(int flood) {
        if (!hasFlood(flood)) {
            return NO_SUCH;
        }
        outcomes.knowAll();
        int code = outcomes.bestCode();
        return code == NONE ? NONE : outcomes.takerIn(code, flood);
    }

    public int safe() {
        if (!hasPlain()) {
            return NO_SUCH;
        }
        outcomes.knowAll();
        return outcomes.safeCodes();
    }

    public long hope(int what) {
        if (!hasPlain() || what != 0 && what != 1) {
            return NO_SUCH;
        }
        int code = outcomes.codeNow();
        outcomes.knowWays(code);
        return fraction(code, what);
    }

    public int wise(int flood) {
        if (!hasFlood(flood)) {
            return NO_SUCH;
        }
        outcomes.knowAll();
        return outcomes.takerIn(outcomes.wiseCode(), flood);
    }

    public long wisest(int what) {
        if (!hasPlain() || what != 0 && what != 1) {
            return NO_SUCH;
        }
        outcomes.knowAll();
        return fraction(outcomes.wiseCode(), what);
    }

    /** HOPE by some TAKERS: above (what 0) or below (1), in lowest terms. */
    private long fraction(int code, int what) {
        long above = outcomes.hopeAbove(code);
        long below = outcomes.hopeBelow();
        long common = commonDivisor(Math.abs(above), below);
        return (what == 0 ? above : below) / common;
    }

    /** The greatest common divisor; 1 at the least, so that it always divides. */
    private static long commonDivisor(long a, long b) {
        long large = a;
        long small = b;
        // Two rounds halve the larger one, so 200 rounds are beyond any long.
        for (int i = 0; i < 200 && small != 0; i++) {
            long rest = large % small;
            large = small;
            small = rest;
        }
        return Math.max(1, large);
    }

    // ---- MARKS

    public int agree(int slot) {
        int wrong = marksWrong(slot, true);
        if (wrong != 0) {
            return wrong;
        }
        int n = 0;
        int total = outcomes.total();
        for (int code = 0; code < total; code++) {
            goThroughYearBy(code);
            if (missed(slot) == NONE) {
                n++;
            }
        }
        return n;
    }

    public int who(int slot, int flood) {
        int wrong = marksWrong(slot, hasFlood(flood));
        if (wrong != 0) {
            return wrong;
        }
        int answer = NONE;
        int total = outcomes.total();
        for (int code = 0; code < total; code++) {
            goThroughYearBy(code);
            if (missed(slot) == NONE) {
                int taker = outcomes.takerIn(code, flood);
                int said = taker == NONE ? NOBODY : taker;
                if (answer != NONE && answer != said) {
                    return NONE;
                }
                answer = said;
            }
        }
        return answer;
    }

    public int sure(int slot, int village, int week) {
        int wrong = marksWrong(slot, hasVillage(village) && hasWeek(week));
        if (wrong != 0) {
            return wrong;
        }
        int answer = NONE;
        int total = outcomes.total();
        for (int code = 0; code < total; code++) {
            goThroughYearBy(code);
            if (missed(slot) == NONE) {
                int level = current.waterBehind(village, week);
                if (answer != NONE && answer != level) {
                    return NONE;
                }
                answer = level;
            }
        }
        return answer;
    }

    public int needed(int slot) {
        int wrong = marksWrong(slot, true);
        if (wrong != 0) {
            return wrong;
        }
        int least = SEVERAL;
        int total = outcomes.total();
        for (int code = 0; code < total; code++) {
            goThroughYearBy(code);
            // Leaving a MARK out lets in just those TAKERS that miss it and no other one.
            int missed = missed(slot);
            if (missed != NONE) {
                least = Math.min(least, missed);
            }
        }
        return least == SEVERAL ? NONE : least;
    }

    /** 0 if a SLOT has MARKS; else what is answered. What else a call names is asked ahead of the row. */
    private int marksWrong(int slot, boolean restIsThere) {
        if (!hasPlain() || !isSlot(slot) || !restIsThere) {
            return NO_SUCH;
        }
        Slot row = slotAt(slot);
        if (row == null) {
            return NOTHING;
        }
        if (row.n % MARK != 0) {
            return NO_SUCH;
        }
        for (int i = 0; i < row.n; i += MARK) {
            long village = row.number(i);
            long week = row.number(i + 1);
            if (village < 0 || village >= now.villages.n || week < 0 || week >= now.weeks) {
                return NO_SUCH;
            }
        }
        return 0;
    }

    private void goThroughYearBy(int code) {
        outcomes.lead(code);
        current.run();
    }

    /** The one MARK that is not so in the YEAR gone through; NONE, or SEVERAL. */
    private int missed(int slot) {
        Slot row = slotAt(slot);
        if (row == null) {
            return NONE;
        }
        int missed = NONE;
        for (int i = 0; i < row.n; i += MARK) {
            int village = (int) row.number(i);
            int week = (int) row.number(i + 1);
            if (row.number(i + 2) != current.waterBehind(village, week)) {
                if (missed != NONE) {
                    return SEVERAL;
                }
                missed = i / MARK;
            }
        }
        return missed;
    }

    // ---- FAIR, MELONS, CANALS and enough

    public int fair(int village) {
        if (!hasVillage(village)) {
            return NO_SUCH;
        }
        for (int part = 0; part <= HUNDRED; part++) {
            if (wealth(village, part, NONE) >= wealth(village, part, village)) {
                return part;
            }
        }
        return NONE;
    }

    /** What a VILLAGE's CROPS BRING and its water at the end, in a YEAR in which one VILLAGE (or NONE) lends nothing. */
    private int wealth(int village, int part, int idle) {
        current.begin();
        current.part = part;
        current.idle = idle;
        current.run();
        int all = current.waterOf(village);
        for (int i = 0; i < now.crops.n; i++) {
            if (now.crops.at(i, GROWER) == village) {
                all += current.brought[i];
            }
        }
        return all;
    }

    public int melons(int village) {
        if (!hasVillage(village)) {
            return NO_SUCH;
        }
        int worth = firstDrink(village);
        if (worth < 1) {
            return NONE;
        }
        goThroughYear();
        return (shortOf(village) + worth - 1) / worth;
    }

    /** What the first CROP of a VILLAGE drinks; 0 if it has none. */
    private int firstDrink(int village) {
        for (int i = 0; i < now.crops.n; i++) {
            if (now.crops.at(i, GROWER) == village) {
                return now.crops.at(i, DRINKS);
            }
        }
        return 0;
    }

    private int shortOf(int village) {
        int all = 0;
        for (int i = 0; i < now.loans.n; i++) {
            if (now.loans.at(i, DEBTOR) == village) {
                all += current.loanOwed[i] - current.loanPaid[i];
            }
        }
        for (int i = 0; i < now.floods.n; i++) {
            if (now.floods.at(i, TAKER) == village) {
                all += current.floodOwed[i] - current.floodPaid[i];
            }
        }
        return all;
    }

    public int share(int village) {
        if (!hasVillage(village)) {
            return NO_SUCH;
        }
        int last = now.villages.n - 1;
        if (village < last) {
            return cutShare(village);
        }
        int left = 0;
        for (int i = 0; i <= last; i++) {
            left += now.villages.at(i, COST);
        }
        for (int i = 0; i < last; i++) {
            left -= cutShare(i);
        }
        return left;
    }

    /** The part of a VILLAGE that is not the last one. */
    private int cutShare(int village) {
        int all = 0;
        for (int i = 0; i <= village; i++) {
            all += now.villages.at(i, COST) / Math.max(1, now.villages.n - i);
        }
        return all;
    }

    public int enough(int village) {
        if (!hasVillage(village)) {
            return NO_SUCH;
        }
        // More water at first may leave less later on (by what others drink then), so each is tried.
        int pond = now.villages.at(village, POND);
        for (int level = 0; level <= pond; level++) {
            if (neverDry(village, level)) {
                return level;
            }
        }
        return NONE;
    }

    private boolean neverDry(int village, int level) {
        current.begin();
        current.add(village, level - current.waterOf(village));
        for (int week = 0; week < now.weeks; week++) {
            current.pass(week);
            if (current.wasDry(village)) {
                return false;
            }
        }
        return true;
    }

    // ---- DEBTS, RINGS and LAWS

    private void reckonDebts() {
        current.begin();
        current.run();
        debts.reckon();
    }

    private boolean arePair(int village, int to) {
        return hasVillage(village) && hasVillage(to) && village != to;
    }

    public int owes(int village, int to) {
        if (!arePair(village, to)) {
            return NO_SUCH;
        }
        reckonDebts();
        return debts.owed.at(village, to);
    }

    public int rings(int what) {
        if (!hasPlain() || what != 0 && what != 1) {
            return NO_SUCH;
        }
        reckonDebts();
        debts.clearRings();
        return what == 0 ? debts.ringCount : debts.cleared;
    }

    public int ring(int i) {
        if (!hasPlain()) {
            return NO_SUCH;
        }
        reckonDebts();
        debts.clearRings();
        return debts.bitsOf(i);
    }

    public int left(int village, int to) {
        if (!arePair(village, to)) {
            return NO_SUCH;
        }
        reckonDebts();
        debts.clearRings();
        return debts.rest.at(village, to);
    }

    public int struck(int law, int what) {
        if (!hasPlain() || law < 0 || law >= LAWS || what != 0 && what != 1) {
            return NO_SUCH;
        }
        reckonDebts();
        debts.strike(law);
        return what == 0 ? debts.paid.inAll() : debts.ruined();
    }

    public int pays(int law, int village, int to) {
        if (law < 0 || law >= LAWS || !arePair(village, to)) {
            return NO_SUCH;
        }
        reckonDebts();
        debts.strike(law);
        return debts.paid.at(village, to);
    }

    public int law() {
        if (!hasPlain()) {
            return NO_SUCH;
        }
        reckonDebts();
        int mildest = 0;
        int fewest = MOST_VILLAGES + 1;
        for (int law = 0; law < LAWS; law++) {
            debts.strike(law);
            int ruined = Integer.bitCount(debts.ruined());
            if (ruined < fewest) {
                fewest = ruined;
                mildest = law;
            }
        }
        return mildest;
    }

    // ---- YEARS drawn

    private static boolean isSeed(int seed) {
        return seed >= 0 && seed <= MOST_SEED;
    }

    public int year(int seed, int what) {
        if (!hasPlain() || !isSeed(seed)) {
            return NO_SUCH;
        }
        int floods = drawn(seed);
        int code = outcomes.onlyComing(outcomes.codeNow(), floods);
        outcomes.know(code);
        switch (what) {
            case 0: return outcomes.broughtBy(code);
            case 1: return outcomes.shortBy(code);
            case 2: return floods;
            default: return NO_SUCH;
        }
    }

    public int years(int seed, int n) {
        if (!hasPlain() || !isSeed(seed) || n < 1 || n > MOST_YEARS) {
            return NO_SUCH;
        }
        int fine = 0;
        int code = outcomes.codeNow();
        for (int i = 0; i < n; i++) {
            int come = outcomes.onlyComing(code, drawn(seed + i));
            outcomes.know(come);
            if (outcomes.shortBy(come) == 0) {
                fine++;
            }
        }
        return fine;
    }

    /** The FLOODS that come in a YEAR drawn, as bits. */
    private int drawn(int seed) {
        long x = seed;
        int floods = 0;
        for (int i = 0; i < now.floods.n; i++) {
            x = (1103515245L * x + 12345L) % 2147483648L;
            if (x / 65536 % HUNDRED < now.floods.at(i, ODDS)) {
                floods |= 1 << i;
            }
        }
        return floods;
    }

    // ---- IMAGES

    public int image(int k) {
        if (k < 0 || k >= IMAGES) {
            return NO_SUCH;
        }
        if (images[k] == null) {
            images[k] = new Plain();
        }
        images[k].copy(now);
        return 0;
    }

    public int restore(int k) {
        if (k < 0 || k >= IMAGES) {
            return NO_SUCH;
        }
        if (images[k] == null) {
            return NOTHING;
        }
        now.copy(images[k]);
        outcomes.forget();
        return 0;
    }

    // ---- SLOTS

    private static boolean isSlot(int slot) {
        return slot >= 0 && slot < SLOTS;
    }

    /** A SLOT's row; null if it has nothing. */
    private Slot slotAt(int slot) {
        return isSlot(slot) ? slots[slot] : null;
    }

    public int row(int slot, int width, int n) {
        if (!isSlot(slot) || width < 0 || width > 3 || n > Slot.MOST) {
            return NO_SUCH;
        }
        if (n < 0) {
            return TOO_FEW;
        }
        if (slots[slot] == null) {
            slots[slot] = new Slot();
        }
        slots[slot].begin(width, n);
        return 0;
    }

    public int write(int slot, int i, long v) {
        if (!isSlot(slot)) {
            return NO_SUCH;
        }
        Slot row = slotAt(slot);
        if (row == null) {
            return NOTHING;
        }
        if (!row.has(i)) {
            return BEYOND;
        }
        row.put(i, v);
        return 0;
    }

    public int paste(int slot, int i, int to, int k, int n) {
        if (!isSlot(slot) || !isSlot(to)) {
            return NO_SUCH;
        }
        Slot source = slotAt(slot);
        Slot target = slotAt(to);
        if (source == null || target == null) {
            return NOTHING;
        }
        if (source.width != target.width) {
            return UNLIKE;
        }
        if (!source.hasAll(i, n) || !target.hasAll(k, n)) {
            return BEYOND;
        }
        // arraycopy reads all ahead of writing, also within one row.
        System.arraycopy(source.numbers, i, target.numbers, k, n);
        return 0;
    }

    // ---- the classes inside

    /** A SLOT's row of numbers. */
    private static final class Slot {
        static final int MOST = 60;

        final long[] numbers = new long[MOST];
        int width;
        int n;

        void begin(int newWidth, int count) {
            width = newWidth;
            n = Math.max(0, Math.min(count, MOST));
            Arrays.fill(numbers, 0L);
        }

        boolean has(int i) {
            return i >= 0 && i < n;
        }

        boolean hasAll(int from, int count) {
            return from >= 0 && count >= 0 && count <= n && from <= n - count;
        }

        long number(int i) {
            return has(i) ? numbers[i] : 0;
        }

        void put(int i, long v) {
            if (has(i)) {
                numbers[i] = cut(v);
            }
        }

        private long cut(long v) {
            switch (width) {
                case 0: return (byte) v;
                case 1: return (short) v;
                case 2: return (int) v;
                default: return v;
            }
        }
    }

    /** The TAPE: bytes that are to be a PLAIN. */
    private static final class Tape {
        static final int MOST = 1600;

        final byte[] bytes = new byte[MOST];
        int length;

        boolean hasPlaceFor(int n) {
            return length + n <= MOST;
        }

        void append(int four) {
            for (int shift = 24; shift >= 0; shift -= 8) {
                if (length < MOST) {
                    bytes[length] = (byte) (four >> shift);
                    length++;
                }
            }
        }

        /** A byte, 0 .. 255; NONE beyond the end. */
        int at(int i) {
            return i >= 0 && i < length ? bytes[i] & 255 : NONE;
        }
    }

    /** The TOKENS of a TAPE, one after the other. */
    private static final class Tokens {
        static final int END = 0;
        static final int WORD = 1;
        static final int NUMBER = 2;
        static final int SIGN = 3;
        static final int NO_TOKEN = 4;

        /** Above every bound, so that longer numbers may stay at it. */
        static final int HUGE = 1000000;

        final Tape tape;
        int kind;
        int start;
        int stop;
        int value;

        Tokens(Tape source) {
            tape = source;
        }

        void begin() {
            kind = END;
            start = 0;
            stop = 0;
            value = 0;
        }

        void step() {
            start = stop;
            while (start < tape.length && isBlank(tape.at(start))) {
                start++;
            }
            stop = start;
            int sign = tape.at(start);
            if (sign == NONE) {
                kind = END;
            } else if (isLetter(sign)) {
                kind = WORD;
                while (stop < tape.length && isLetter(tape.at(stop))) {
                    stop++;
                }
            } else if (isDigit(sign)) {
                kind = NUMBER;
                stepNumber();
            } else {
                kind = sign == ';' ? SIGN : NO_TOKEN;
                stop++;
            }
        }

        private void stepNumber() {
            value = 0;
            while (stop < tape.length && isDigit(tape.at(stop))) {
                value = Math.min(HUGE, value * 10 + tape.at(stop) - '0');
                stop++;
            }
        }

        /** Whether the TOKEN is the word that stands in a text from one place up to another. */
        boolean isWord(String text, int from, int to) {
            if (kind != WORD || stop - start != to - from) {
                return false;
            }
            for (int i = from; i < to && i < text.length(); i++) {
                if (text.charAt(i) != tape.at(start + i - from)) {
                    return false;
                }
            }
            return true;
        }

        private static boolean isBlank(int sign) {
            return sign == ' ' || sign == '\n';
        }

        private static boolean isLetter(int sign) {
            return sign >= 'a' && sign <= 'z';
        }

        private static boolean isDigit(int sign) {
            return sign >= '0' && sign <= '9';
        }
    }

    /** Reads a PLAIN from the TAPE and remembers the latest FAULT and its place. */
    private static final class Scribe {
        static final int RIVER = 0;
        static final int VILLAGE = 1;
        static final int CROP = 2;
        static final int SUN = 3;
        static final int FLOOD = 4;
        static final int LOAN = 5;
        static final int CANAL = 6;
        static final int LINES = 7;

        static final int MISPLACED = 1;
        static final int OUT_OF_BOUNDS = 2;
        static final int TOO_MANY = 3;

        static final int MOST_NUMBERS = 5;

        final Tape tape;
        final Tokens tokens;
        final int[] numbers = new int[MOST_NUMBERS];
        int fault;
        int place;

        Scribe(Tape source) {
            tape = source;
            tokens = new Tokens(source);
            place = NONE;
        }

        boolean reads(Plain draft) {
            draft.clear();
            fault = 0;
            place = NONE;
            tokens.begin();
            // A LINE has a byte at the least, so there are no more LINES than bytes.
            for (int i = 0; i <= tape.length; i++) {
                tokens.step();
                if (tokens.kind == Tokens.END) {
                    return true;
                }
                if (!readsLine(draft)) {
                    return false;
                }
            }
            return true;
        }

        private boolean readsLine(Plain draft) {
            int line = lineOfWord();
            if (line == NONE || (line == RIVER) != (draft.lines == 0)) {
                return fails(MISPLACED);
            }
            if (isFull(draft, line)) {
                return fails(TOO_MANY);
            }
            String form = formOf(line);
            int k = 0;
            for (int from = 1; from < form.length(); from++) {
                if (form.charAt(from - 1) == ' ') {
                    tokens.step();
                    boolean number = form.charAt(from) == 'N';
                    if (!(number ? readsNumber(draft, line, k) : readsWord(form, from))) {
                        return false;
                    }
                    k += number ? 1 : 0;
                }
            }
            tokens.step();
            if (tokens.kind != Tokens.SIGN) {
                return fails(MISPLACED);
            }
            keep(draft, line);
            return true;
        }

        private boolean readsWord(String form, int from) {
            return tokens.isWord(form, from, wordEnd(form, from)) || fails(MISPLACED);
        }

        private boolean readsNumber(Plain draft, int line, int k) {
            if (tokens.kind != Tokens.NUMBER || k < 0 || k >= MOST_NUMBERS) {
                return fails(MISPLACED);
            }
            int value = tokens.value;
            if (value < least(line, k) || value > most(draft, line, k)) {
                return fails(OUT_OF_BOUNDS);
            }
            if (line == LOAN && k == DEBTOR && value == numbers[LENDER]) {
                return fails(OUT_OF_BOUNDS);
            }
            numbers[k] = value;
            return true;
        }

        private boolean fails(int number) {
            fault = number;
            place = tokens.start;
            return false;
        }

        private int lineOfWord() {
            for (int line = 0; line < LINES; line++) {
                String form = formOf(line);
                if (tokens.isWord(form, 0, wordEnd(form, 0))) {
                    return line;
                }
            }
            return NONE;
        }

        /** How a LINE stands, up to its sign; N is a number. */
        private static String formOf(int line) {
            switch (line) {
                case RIVER: return "river weeks N more N back N";
                case VILLAGE: return "village pond N water N face N seep N";
                case CROP: return "crop N drinks N brings N from N to N";
                case SUN: return "sun N is N";
                case FLOOD: return "flood N brings N odds N";
                case LOAN: return "loan N to N of N on N till N";
                default: return "canal N costs N";
            }
        }

        private static int wordEnd(String form, int from) {
            int end = from;
            while (end < form.length() && form.charAt(end) != ' ') {
                end++;
            }
            return end;
        }

        private static boolean isFull(Plain draft, int line) {
            switch (line) {
                case VILLAGE: return draft.villages.isFull();
                case CROP: return draft.crops.isFull();
                case FLOOD: return draft.floods.isFull();
                case LOAN: return draft.loans.isFull();
                default: return false;
            }
        }

        private int least(int line, int k) {
            switch (line) {
                case RIVER: return k == 0 ? 4 : 0;
                case CROP: return k == DRINKS ? 1 : k == TO ? numbers[FROM] : 0;
                case LOAN: return k == AMOUNT ? 1 : k == TILL ? numbers[ON] + 1 : 0;
                default: return 0;
            }
        }

        private int most(Plain draft, int line, int k) {
            int lastWeek = draft.weeks - 1;
            int lastVillage = draft.villages.n - 1;
            switch (line) {
                case RIVER: return k == 0 ? MOST_WEEKS : k == 1 ? HUNDRED : numbers[0] - 1;
                case VILLAGE: return k == POND ? 9999 : k == WATER ? numbers[POND] : 99;
                case CROP: return k == GROWER ? lastVillage : k <= BRINGS ? 99 : lastWeek;
                case SUN: return k == 0 ? lastWeek : 99;
                case FLOOD: return k == COMES ? lastWeek : k == CARRIES ? 9999 : HUNDRED;
                case LOAN: return k <= DEBTOR ? lastVillage : k == AMOUNT ? 9999 : lastWeek;
                default: return k == 0 ? lastVillage : 9999;
            }
        }

        private void keep(Plain draft, int line) {
            draft.lines++;
            switch (line) {
                case RIVER:
                    draft.weeks = numbers[0];
                    draft.more = numbers[1];
                    draft.back = numbers[2];
                    break;
                case VILLAGE:
                    draft.villages.add(numbers);
                    draft.villages.put(draft.villages.n - 1, COST, 0);
                    break;
                case CROP:
                    draft.crops.add(numbers);
                    break;
                case SUN:
                    draft.shines(numbers[0], numbers[1]);
                    break;
                case FLOOD:
                    draft.floods.add(numbers);
                    draft.floods.put(draft.floods.n - 1, TAKER, NONE);
                    break;
                case LOAN:
                    draft.loans.add(numbers);
                    break;
                default:
                    draft.villages.put(numbers[0], COST, numbers[1]);
            }
        }
    }

    /** Things of one kind, as many columns of numbers each. */
    private static final class Records {
        final int most;
        final int columns;
        final int[] cells;
        int n;

        Records(int length, int width) {
            most = length;
            columns = width;
            cells = new int[length * width];
        }

        boolean isFull() {
            return n >= most;
        }

        boolean has(int i) {
            return i >= 0 && i < n;
        }

        void add(int[] numbers) {
            if (!isFull()) {
                n++;
                for (int k = 0; k < columns && k < numbers.length; k++) {
                    put(n - 1, k, numbers[k]);
                }
            }
        }

        int at(int i, int column) {
            return i >= 0 && i < n && column >= 0 && column < columns ? cells[i * columns + column] : 0;
        }

        void put(int i, int column, int value) {
            if (i >= 0 && i < n && column >= 0 && column < columns) {
                cells[i * columns + column] = value;
            }
        }

        /** Takes over records of the same size. */
        void copy(Records other) {
            n = Math.min(most, other.n);
            System.arraycopy(other.cells, 0, cells, 0, Math.min(cells.length, other.cells.length));
        }
    }

    /** What a text tells, with more and the TAKERS; without LINES there is none. */
    private static final class Plain {
        final Records villages = new Records(MOST_VILLAGES, VILLAGE_COLUMNS);
        final Records crops = new Records(MOST_CROPS, CROP_COLUMNS);
        final Records floods = new Records(MOST_FLOODS, FLOOD_COLUMNS);
        final Records loans = new Records(MOST_LOANS, LOAN_COLUMNS);
        final int[] sun = new int[MOST_WEEKS];
        int lines;
        int weeks;
        int more;
        int back;

        void clear() {
            villages.n = 0;
            crops.n = 0;
            floods.n = 0;
            loans.n = 0;
            Arrays.fill(sun, 0);
            lines = 0;
            weeks = 0;
            more = 0;
            back = 0;
        }

        void copy(Plain other) {
            villages.copy(other.villages);
            crops.copy(other.crops);
            floods.copy(other.floods);
            loans.copy(other.loans);
            System.arraycopy(other.sun, 0, sun, 0, MOST_WEEKS);
            lines = other.lines;
            weeks = other.weeks;
            more = other.more;
            back = other.back;
        }

        void shines(int week, int strength) {
            if (week >= 0 && week < MOST_WEEKS) {
                sun[week] = strength;
            }
        }

        int sunIn(int week) {
            return week >= 0 && week < MOST_WEEKS ? sun[week] : 0;
        }
    }

    /** A YEAR: begun, perhaps changed, and gone through; what comes of it stays until the next begins. */
    private static final class Year {
        final Plain plain;
        final int[] taker = new int[MOST_FLOODS];
        int part;
        int idle;

        final int[] water = new int[MOST_VILLAGES];
        final int[] behind = new int[MOST_VILLAGES * MOST_WEEKS];
        final int[] taken = new int[MOST_FLOODS];
        final int[] floodOwed = new int[MOST_FLOODS];
        final int[] floodPaid = new int[MOST_FLOODS];
        final int[] lent = new int[MOST_LOANS];
        final int[] loanOwed = new int[MOST_LOANS];
        final int[] loanPaid = new int[MOST_LOANS];
        final int[] brought = new int[MOST_CROPS];
        final int[] dry = new int[MOST_CROPS];
        final int[] firstDry = new int[MOST_CROPS];
        final boolean[] dryOf = new boolean[MOST_VILLAGES];
        int sky;
        int sea;
        int drunk;
        int trouble;

        Year(Plain told) {
            plain = told;
        }

        /** As the PLAIN tells it: all FLOODS come, TAKERS are as they are, everybody lends. */
        void begin() {
            part = plain.more;
            idle = NONE;
            for (int i = 0; i < MOST_FLOODS; i++) {
                taker[i] = plain.floods.at(i, TAKER);
            }
            for (int i = 0; i < MOST_VILLAGES; i++) {
                water[i] = plain.villages.at(i, WATER);
                dryOf[i] = false;
            }
            Arrays.fill(taken, 0);
            Arrays.fill(floodOwed, 0);
            Arrays.fill(floodPaid, 0);
            Arrays.fill(lent, 0);
            Arrays.fill(loanOwed, 0);
            Arrays.fill(loanPaid, 0);
            Arrays.fill(brought, 0);
            Arrays.fill(dry, 0);
            Arrays.fill(firstDry, NONE);
            sky = 0;
            sea = 0;
            drunk = 0;
            trouble = NONE;
        }

        void run() {
            for (int week = 0; week < plain.weeks; week++) {
                pass(week);
            }
        }

        void pass(int week) {
            takeFloods(week);
            lendOn(week);
            repayTill(week);
            if (week == plain.back) {
                giveBack(week);
            }
            drinkCrops(week);
            drinkSky(week);
            seepAway();
            noteWater(week);
        }

        int waterBehind(int village, int week) {
            if (village < 0 || village >= MOST_VILLAGES || week < 0 || week >= MOST_WEEKS) {
                return 0;
            }
            return behind[village * MOST_WEEKS + week];
        }

        int waterOf(int village) {
            return village >= 0 && village < MOST_VILLAGES ? water[village] : 0;
        }

        void add(int village, int n) {
            if (village >= 0 && village < MOST_VILLAGES) {
                water[village] += n;
            }
        }

        /** Whether a CROP of a VILLAGE was DRY so far. */
        boolean wasDry(int village) {
            return village >= 0 && village < MOST_VILLAGES && dryOf[village];
        }

        int shortInAll() {
            return together(floodOwed) - together(floodPaid) + together(loanOwed) - together(loanPaid);
        }

        private int roomOf(int village) {
            return plain.villages.at(village, POND) - waterOf(village);
        }

        private int withMore(int n) {
            return n + (n * part + HUNDRED - 1) / HUNDRED;
        }

        private void noteTrouble(int week) {
            if (trouble == NONE) {
                trouble = week;
            }
        }

        private void takeFloods(int week) {
            for (int i = 0; i < plain.floods.n; i++) {
                int village = taker[i];
                if (village != NONE && plain.floods.at(i, COMES) == week) {
                    taken[i] = Math.min(plain.floods.at(i, CARRIES), roomOf(village));
                    floodOwed[i] = withMore(taken[i]);
                    add(village, taken[i]);
                }
            }
        }

        private void lendOn(int week) {
            for (int i = 0; i < plain.loans.n; i++) {
                int lender = plain.loans.at(i, LENDER);
                if (plain.loans.at(i, ON) == week && lender != idle) {
                    int debtor = plain.loans.at(i, DEBTOR);
                    int most = Math.min(plain.loans.at(i, AMOUNT), waterOf(lender));
                    lent[i] = Math.min(most, roomOf(debtor));
                    loanOwed[i] = withMore(lent[i]);
                    add(lender, -lent[i]);
                    add(debtor, lent[i]);
                }
            }
        }

        private void repayTill(int week) {
            for (int i = 0; i < plain.loans.n; i++) {
                if (plain.loans.at(i, TILL) == week) {
                    int lender = plain.loans.at(i, LENDER);
                    int debtor = plain.loans.at(i, DEBTOR);
                    int most = Math.min(loanOwed[i], waterOf(debtor));
                    loanPaid[i] = Math.min(most, roomOf(lender));
                    add(debtor, -loanPaid[i]);
                    add(lender, loanPaid[i]);
                    if (loanPaid[i] < loanOwed[i]) {
                        noteTrouble(week);
                    }
                }
            }
        }

        private void giveBack(int week) {
            for (int i = 0; i < plain.floods.n; i++) {
                int village = taker[i];
                if (village != NONE) {
                    floodPaid[i] = Math.min(floodOwed[i], waterOf(village));
                    add(village, -floodPaid[i]);
                    if (floodPaid[i] < floodOwed[i]) {
                        noteTrouble(week);
                    }
                }
            }
        }

        private void drinkCrops(int week) {
            for (int i = 0; i < plain.crops.n; i++) {
                if (plain.crops.at(i, FROM) <= week && week <= plain.crops.at(i, TO)) {
                    int village = plain.crops.at(i, GROWER);
                    int drinks = plain.crops.at(i, DRINKS);
                    if (waterOf(village) >= drinks) {
                        add(village, -drinks);
                        drunk += drinks;
                        brought[i] += plain.crops.at(i, BRINGS);
                    } else {
                        staysDry(i, village, week);
                    }
                }
            }
        }

        private void staysDry(int crop, int village, int week) {
            if (crop >= 0 && crop < MOST_CROPS) {
                firstDry[crop] = dry[crop] == 0 ? week : firstDry[crop];
                dry[crop]++;
            }
            if (village >= 0 && village < MOST_VILLAGES) {
                dryOf[village] = true;
            }
            noteTrouble(week);
        }

        private void drinkSky(int week) {
            int sun = plain.sunIn(week);
            for (int i = 0; i < plain.villages.n; i++) {
                int drink = Math.min(water[i], plain.villages.at(i, FACE) * sun / HUNDRED);
                water[i] -= drink;
                sky += drink;
            }
        }

        private void seepAway() {
            int last = plain.villages.n - 1;
            for (int i = last; i >= 0; i--) {
                int lost = Math.min(water[i], plain.villages.at(i, SEEP));
                int caught = i < last ? Math.min(lost, roomOf(i + 1)) : 0;
                water[i] -= lost;
                if (i < last) {
                    water[i + 1] += caught;
                }
                sea += lost - caught;
            }
        }

        private void noteWater(int week) {
            if (week >= 0 && week < MOST_WEEKS) {
                for (int i = 0; i < plain.villages.n; i++) {
                    behind[i * MOST_WEEKS + week] = water[i];
                }
            }
        }
    }

    /**
     * What is BROUGHT and SHORT by all TAKERS. TAKERS are numbered in their order: a digit each
     * FLOOD, FLOOD 0 the highest, 0 for nobody. A FLOOD that does not come is as one that nobody takes,
     * so one number per TAKERS serves HOPE and the YEARS drawn too.
     */
    private static final class Outcomes {
        static final int MOST = 343;

        final Plain plain;
        final Year year;
        final int[] broughtIn = new int[MOST];
        final int[] shortIn = new int[MOST];
        final boolean[] known = new boolean[MOST];

        Outcomes(Plain told, Year shared) {
            plain = told;
            year = shared;
        }

        /** To be called whenever PLAIN or more change. */
        void forget() {
            for (int i = 0; i < MOST; i++) {
                known[i] = false;
            }
        }

        int total() {
            int all = 1;
            for (int i = 0; i < plain.floods.n; i++) {
                all *= choices();
            }
            return all;
        }

        /** How many digits there are: nobody and each VILLAGE. */
        private int choices() {
            return Math.max(1, plain.villages.n + 1);
        }

        int takerIn(int code, int flood) {
            int choices = choices();
            int rest = code;
            for (int i = plain.floods.n - 1; i > flood; i--) {
                rest /= choices;
            }
            return rest % choices - 1;
        }

        int codeNow() {
            int code = 0;
            for (int i = 0; i < plain.floods.n; i++) {
                code = code * choices() + plain.floods.at(i, TAKER) + 1;
            }
            return code;
        }

        /** The same TAKERS, but nobody where a FLOOD does not come (floods: those that do, as bits). */
        int onlyComing(int code, int floods) {
            int come = 0;
            for (int i = 0; i < plain.floods.n; i++) {
                int digit = (floods >> i & 1) == 1 ? takerIn(code, i) + 1 : 0;
                come = come * choices() + digit;
            }
            return come;
        }

        /** Begins a YEAR by some TAKERS. */
        void lead(int code) {
            year.begin();
            for (int i = 0; i < plain.floods.n; i++) {
                year.taker[i] = takerIn(code, i);
            }
        }

        /** To be called ahead of broughtBy and shortBy. */
        void know(int code) {
            if (isCode(code) && !known[code]) {
                lead(code);
                year.run();
                broughtIn[code] = together(year.brought);
                shortIn[code] = year.shortInAll();
                known[code] = true;
            }
        }

        void knowAll() {
            int total = total();
            for (int code = 0; code < total; code++) {
                know(code);
            }
        }

        /** All that HOPE by some TAKERS needs. */
        void knowWays(int code) {
            int ways = 1 << plain.floods.n;
            for (int floods = 0; floods < ways; floods++) {
                know(onlyComing(code, floods));
            }
        }

        private static boolean isCode(int code) {
            return code >= 0 && code < MOST;
        }

        int broughtBy(int code) {
            return isCode(code) ? broughtIn[code] : 0;
        }

        int shortBy(int code) {
            return isCode(code) ? shortIn[code] : 0;
        }

        int safeCodes() {
            int safe = 0;
            int total = total();
            for (int code = 0; code < total; code++) {
                if (shortBy(code) == 0) {
                    safe++;
                }
            }
            return safe;
        }

        /** The first BEST TAKERS; NONE if there are none. */
        int bestCode() {
            int best = NONE;
            int total = total();
            for (int code = 0; code < total; code++) {
                if (shortBy(code) == 0 && (best == NONE || broughtBy(code) > broughtBy(best))) {
                    best = code;
                }
            }
            return best;
        }

        int wiseCode() {
            int wise = 0;
            long most = hopeAbove(0);
            int total = total();
            for (int code = 1; code < total; code++) {
                long hope = hopeAbove(code);
                if (hope > most) {
                    most = hope;
                    wise = code;
                }
            }
            return wise;
        }

        /** HOPE by some TAKERS, times hopeBelow(). */
        long hopeAbove(int code) {
            long all = 0;
            int ways = 1 << plain.floods.n;
            for (int floods = 0; floods < ways; floods++) {
                int come = onlyComing(code, floods);
                all += chance(floods) * (broughtBy(come) - shortBy(come));
            }
            return all;
        }

        long hopeBelow() {
            long below = 1;
            for (int i = 0; i < plain.floods.n; i++) {
                below *= HUNDRED;
            }
            return below;
        }

        /** How likely just these FLOODS come, times hopeBelow(). */
        private long chance(int floods) {
            long all = 1;
            for (int i = 0; i < plain.floods.n; i++) {
                int odds = plain.floods.at(i, ODDS);
                all *= (floods >> i & 1) == 1 ? odds : HUNDRED - odds;
            }
            return all;
        }
    }

    /** A number for each VILLAGE and each other one. */
    private static final class Pairs {
        final int[] cells = new int[MOST_VILLAGES * MOST_VILLAGES];

        private static boolean has(int village, int to) {
            return village >= 0 && village < MOST_VILLAGES && to >= 0 && to < MOST_VILLAGES;
        }

        int at(int village, int to) {
            return has(village, to) ? cells[village * MOST_VILLAGES + to] : 0;
        }

        void put(int village, int to, int value) {
            if (has(village, to)) {
                cells[village * MOST_VILLAGES + to] = value;
            }
        }

        void add(int village, int to, int n) {
            put(village, to, at(village, to) + n);
        }

        int inAll() {
            return together(cells);
        }

        void clear() {
            Arrays.fill(cells, 0);
        }

        void copy(Pairs other) {
            System.arraycopy(other.cells, 0, cells, 0, cells.length);
        }
    }

    /** DEBTS at the end of a YEAR, what is left of them without RINGS, and what is paid by a LAW. */
    private static final class Debts {
        static final int LEAST_FIRST = 1;
        static final int PARTS = 2;

        final Plain plain;
        final Year year;
        final Pairs owed = new Pairs();
        final Pairs rest = new Pairs();
        final Pairs paid = new Pairs();
        final int[] round = new int[MOST_VILLAGES];
        // Each RING brings a DEBT to 0, and there are no more DEBTS than LOANS.
        final int[] ringBits = new int[MOST_LOANS];
        int ringCount;
        int cleared;

        Debts(Plain told, Year shared) {
            plain = told;
            year = shared;
        }

        void reckon() {
            owed.clear();
            for (int i = 0; i < plain.loans.n; i++) {
                owed.add(plain.loans.at(i, DEBTOR), plain.loans.at(i, LENDER), year.loanOwed[i] - year.loanPaid[i]);
            }
        }

        void clearRings() {
            rest.copy(owed);
            ringCount = 0;
            cleared = 0;
            for (int i = 0; i < MOST_LOANS; i++) {
                int length = findRing();
                if (length == 0) {
                    return;
                }
                ringBits[i] = clearRound(length);
                ringCount = i + 1;
            }
        }

        /** The VILLAGES of a RING that was CLEARED; NONE if there is none such. */
        int bitsOf(int ring) {
            return ring >= 0 && ring < Math.min(ringCount, MOST_LOANS) ? ringBits[ring] : NONE;
        }

        /** Puts the next RING into round: how many VILLAGES it has, 0 if there is none. */
        private int findRing() {
            int villages = plain.villages.n;
            for (int length = 2; length <= villages; length++) {
                for (int least = 0; least < villages; least++) {
                    round[0] = least;
                    if (closes(rest, round, 1, length, villages)) {
                        return length;
                    }
                }
            }
            return 0;
        }

        /** Whether the row, so far of depth VILLAGES, can be made a RING of a length; the least row is tried first. */
        private static boolean closes(Pairs rest, int[] round, int depth, int length, int villages) {
            if (depth < 1 || depth > round.length) {
                return false;
            }
            int last = round[depth - 1];
            if (depth >= length) {
                return rest.at(last, round[0]) > 0;
            }
            for (int next = round[0] + 1; next < villages && depth < round.length; next++) {
                if (rest.at(last, next) > 0 && !holds(round, depth, next)) {
                    round[depth] = next;
                    if (closes(rest, round, depth + 1, length, villages)) {
                        return true;
                    }
                }
            }
            return false;
        }

        private static boolean holds(int[] round, int depth, int village) {
            for (int i = 0; i < depth && i < round.length; i++) {
                if (round[i] == village) {
                    return true;
                }
            }
            return false;
        }

        /** Makes the DEBTS of the RING in round less: its VILLAGES, as bits. */
        private int clearRound(int length) {
            int least = rest.at(inRound(length - 1), inRound(0));
            for (int i = 1; i < length; i++) {
                least = Math.min(least, rest.at(inRound(i - 1), inRound(i)));
            }
            int bits = 0;
            for (int i = 0; i < length; i++) {
                int next = i + 1 < length ? i + 1 : 0;
                rest.add(inRound(i), inRound(next), -least);
                bits |= 1 << inRound(i);
            }
            cleared += least * length;
            return bits;
        }

        private int inRound(int i) {
            return i >= 0 && i < MOST_VILLAGES ? round[i] : 0;
        }

        void strike(int law) {
            paid.clear();
            for (int village = 0; village < plain.villages.n; village++) {
                if (law == PARTS) {
                    payParts(village);
                } else {
                    payInTurn(village, law);
                }
            }
        }

        private void payParts(int village) {
            long all = 0;
            for (int to = 0; to < plain.villages.n; to++) {
                all += owed.at(village, to);
            }
            long water = year.waterOf(village);
            for (int to = 0; to < plain.villages.n; to++) {
                int debt = owed.at(village, to);
                paid.put(village, to, water < all ? (int) (debt * water / Math.max(1, all)) : debt);
            }
        }

        private void payInTurn(int village, int law) {
            int water = year.waterOf(village);
            int done = 0;
            for (int i = 0; i < plain.villages.n; i++) {
                int to = nextToPay(village, law, done);
                if (to == NONE) {
                    return;
                }
                int pays = Math.min(water, owed.at(village, to));
                paid.put(village, to, pays);
                water -= pays;
                done |= 1 << to;
            }
        }

        /** Whom a VILLAGE pays next (done: those who had their turn, as bits); NONE if it owes no other one. */
        private int nextToPay(int village, int law, int done) {
            int next = NONE;
            for (int to = 0; to < plain.villages.n; to++) {
                int debt = owed.at(village, to);
                if (debt > 0 && (done >> to & 1) == 0) {
                    if (next == NONE || law == LEAST_FIRST && debt < owed.at(village, next)) {
                        next = to;
                    }
                }
            }
            return next;
        }

        /** Who is RUINED, as bits. */
        int ruined() {
            int bits = 0;
            for (int village = 0; village < plain.villages.n; village++) {
                int due = 0;
                int got = 0;
                for (int from = 0; from < plain.villages.n; from++) {
                    due += owed.at(from, village);
                    got += paid.at(from, village);
                }
                if (2 * got < due) {
                    bits |= 1 << village;
                }
            }
            return bits;
        }
    }
}
