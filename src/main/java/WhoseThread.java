/** Three women spin, measure and cut: a loom of threads, told in texts, run by days, foretold. */
public final class WhoseThread {
    public static final int NONE = -1, UNKNOWN = -2, OUTSIDE = -3, NOT = -4, FULL = -5;

    private static final int MOST_THREADS = 8;
    private static final int MOST_ORDERS = 6;
    private static final int MOST_LETTERS = 160;
    private static final int MOST_CLAUSES = 14;
    private static final int MOST_DIGITS = 2;
    private static final int LAST_LETTER = 255;
    private static final int LONGEST = 60;
    private static final int LAST_COLOUR = 3;
    private static final int LAST_ORDER_DAY = 99;
    private static final int LAST_DAY = 999;
    private static final int MOST_DAYS = 99;
    private static final int MOST_UNDONE = 8;
    private static final int MOST_KEPT = 2;
    private static final int ABOVE_ALL_LOSS = 2 * LONGEST * MOST_THREADS + 1;

    private static final int PLAIN = 0, BRAVE = 1, SILK = 2, ENDLESS = 3;
    private static final int OVER = 4, KNOT = 5, CUT = 6, LOOM = 7, CALM = 8, FREE = 9;
    private static final int OTHER_SIGN = 0, SMALL_LETTER = 1, DIGIT = 2;

    private final Text text;
    private final Telling told;
    private final Telling trial;
    private final Loom now;
    private final Loom spare;
    private final Past past;
    private final Loom[] kept;
    private int keptBits;
    private final Dealing dealing;
    private final Tailing tailing;

    public WhoseThread() {
        text = new Text();
        told = new Telling();
        trial = new Telling();
        now = new Loom(told);
        spare = new Loom(told);
        past = new Past(told);
        kept = new Loom[MOST_KEPT];
        for (int k = 0; k < MOST_KEPT; k++) {
            kept[k] = new Loom(told);
        }
        keptBits = 0;
        dealing = new Dealing(told, now);
        tailing = new Tailing(told, now);
    }

    // ---- what is told

    public int write(int letter) {
        if (letter < 0 || letter > LAST_LETTER) {
            return OUTSIDE;
        }
        if (text.length >= MOST_LETTERS) {
            return FULL;
        }
        text.add(letter);
        return text.length;
    }

    public int erase() {
        int had = text.length;
        text.length = 0;
        return had;
    }

    public int fault() {
        trial.copyFrom(told);
        return text.firstFault(trial);
    }

    public int loom() {
        trial.copyFrom(told);
        if (text.firstFault(trial) != NONE) {
            return NOT;
        }
        told.copyFrom(trial);
        text.length = 0;
        now.begin();
        past.held = 0;
        keptBits = 0;
        return text.clauses;
    }

    public int thread(int thread, int what) {
        if (!known(thread)) {
            return UNKNOWN;
        }
        switch (what) {
            case 0: return told.kinds[thread];
            case 1: return told.lengths[thread];
            case 2: return now.colours[thread];
            case 3: return now.fateOf(thread);
            case 4: return now.over[thread];
            case 5: return now.knots[thread];
            case 6: return now.cutDays[thread];
            default: return OUTSIDE;
        }
    }

    public int as(int thread, int kind) {
        if (!known(thread)) {
            return UNKNOWN;
        }
        if (kind < 0 || kind > ENDLESS + 1) {
            return OUTSIDE;
        }
        if (!told.isOf(thread, kind)) {
            return NOT;
        }
        return now.isWhole(thread) ? told.yearsOn(thread, now.day) : 0;
    }

    public int order(int order, int what) {
        if (order < 0 || order >= told.orders) {
            return UNKNOWN;
        }
        switch (what) {
            case 0: return told.orderThreads[order];
            case 1: return told.orderDays[order];
            default: return OUTSIDE;
        }
    }

    public int top(int thread) {
        if (!known(thread)) {
            return UNKNOWN;
        }
        return now.isWhole(thread) ? now.topOf(thread, now.whole) : NOT;
    }

    // ---- what is done

    public int cut(int thread) {
        if (!known(thread)) {
            return UNKNOWN;
        }
        if (!now.isWhole(thread)) {
            return NOT;
        }
        past.remember(now);
        return Integer.bitCount(now.cutAt(thread));
    }

    public int put(int one, int other) {
        if (!knownPair(one, other)) {
            return UNKNOWN;
        }
        if (!now.isWhole(one) || !now.isWhole(other)) {
            return NOT;
        }
        if (has(now.over[other], one) || makesRing(now.over, one, other)) {
            return NOT;
        }
        past.remember(now);
        now.over[other] |= bit(one);
        return Integer.bitCount(now.over[other]);
    }

    public int lift(int thread) {
        if (!known(thread)) {
            return UNKNOWN;
        }
        if (!now.isWhole(thread) || now.liesOver(thread) == 0) {
            return NOT;
        }
        past.remember(now);
        int off = now.liesOver(thread);
        now.takeOff(thread);
        return off;
    }

    public int knot(int one, int other, int is) {
        if (!knownPair(one, other)) {
            return UNKNOWN;
        }
        if (is < 0 || is > 1) {
            return OUTSIDE;
        }
        if (!now.isWhole(one) || !now.isWhole(other)) {
            return NOT;
        }
        past.remember(now);
        int were = has(now.knots[one], other) ? 1 : 0;
        if (is != were) {
            now.knots[one] ^= bit(other);
            now.knots[other] ^= bit(one);
        }
        return were;
    }

    public int dye(int thread, int colour) {
        if (!known(thread)) {
            return UNKNOWN;
        }
        if (colour < 0 || colour > LAST_COLOUR) {
            return OUTSIDE;
        }
        if (!now.isWhole(thread)) {
            return NOT;
        }
        past.remember(now);
        int ahead = now.colours[thread];
        now.colours[thread] = colour;
        return ahead;
    }

    public int go(int n) {
        if (n < 1 || n > MOST_DAYS) {
            return OUTSIDE;
        }
        if (now.day + n > LAST_DAY) {
            return FULL;
        }
        past.remember(now);
        int ahead = now.lost;
        now.endDays(n);
        return now.lost - ahead;
    }

    public int undo() {
        if (past.held == 0) {
            return NOT;
        }
        past.bringBack(now);
        return past.held;
    }

    public int keep(int k) {
        if (k < 0 || k >= MOST_KEPT) {
            return UNKNOWN;
        }
        kept[k].copyFrom(now);
        keptBits |= bit(k);
        return now.day;
    }

    public int back(int k) {
        if (k < 0 || k >= MOST_KEPT) {
            return UNKNOWN;
        }
        if (!has(keptBits, k)) {
            return NOT;
        }
        now.copyFrom(kept[k]);
        past.held = 0;
        return now.day;
    }

    // ---- foretold

    public int takes(int thread) {
        return known(thread) ? now.fallOf(thread, now.whole) : UNKNOWN;
    }

    public int loss(int thread) {
        return known(thread) ? lossAt(thread) : UNKNOWN;
    }

    public int lifts(int thread, int what) {
        if (!known(thread)) {
            return UNKNOWN;
        }
        if (what < 0 || what > 1) {
            return OUTSIDE;
        }
        if (!now.isWhole(thread)) {
            return NOT;
        }
        // Each whole one right over it keeps it from being its own top, and no other one does.
        int set = now.over[thread] & now.whole;
        return what == 0 ? Integer.bitCount(set) : set;
    }

    public int doom(int what) {
        if (what < 0 || what > 1) {
            return OUTSIDE;
        }
        spare.copyFrom(now);
        spare.endDays(LAST_ORDER_DAY + 1 - now.day);
        return what == 0 ? spare.lost - now.lost : spare.cut & ~now.cut;
    }

    public int swapped(int order) {
        if (order != NONE && (order < 0 || order >= told.orders)) {
            return UNKNOWN;
        }
        dealing.deal();
        return order == NONE ? dealing.least : dealing.first[order];
    }

    public int tails(int thread) {
        if (thread != NONE && !known(thread)) {
            return UNKNOWN;
        }
        tailing.give();
        return thread == NONE ? tailing.most : tailing.first[thread];
    }

    public int given(int thread, int n, int m) {
        if (!known(thread)) {
            return UNKNOWN;
        }
        if (n < 1 || n > MOST_DAYS || m < 0 || m > MOST_DAYS) {
            return OUTSIDE;
        }
        if (!now.isWhole(thread)) {
            return NOT;
        }
        int together = 0;
        int most = 0;
        int giver = NONE;
        for (int i = 0; i < told.threads; i++) {
            int days = i == thread ? 0 : now.canGive(i, m);
            together += days;
            if (days > most) {
                most = days;
                giver = i;
            }
        }
        return together >= n ? giver : NONE;
    }

    public int cat(int thread, int part) {
        if (!known(thread)) {
            return UNKNOWN;
        }
        if (part < 0 || part > 1) {
            return OUTSIDE;
        }
        if (now.whole == 0) {
            return NOT;
        }
        int times = 0;
        for (int i = 0; i < told.threads; i++) {
            if (has(now.fallOf(i, now.whole), thread)) {
                times++;
            }
        }
        return lowest(times, Integer.bitCount(now.whole), part);
    }

    public int mean(int part) {
        if (part < 0 || part > 1) {
            return OUTSIDE;
        }
        if (now.whole == 0) {
            return NOT;
        }
        int together = 0;
        for (int i = 0; i < told.threads; i++) {
            together += lossAt(i);
        }
        return lowest(together, Integer.bitCount(now.whole), part);
    }

    public int whose(int set) {
        if ((set & ~told.all()) != 0) {
            return UNKNOWN;
        }
        int found = 0;
        for (int i = 0; i < told.threads; i++) {
            if (now.fallOf(i, now.whole) == set) {
                found |= bit(i);
            }
        }
        return found;
    }

    public int fourth(int what) {
        if (what < 0 || what > 1) {
            return OUTSIDE;
        }
        int chosen = NONE;
        int least = NONE;
        for (int i = 0; i < told.threads; i++) {
            if (now.fallOf(i, now.whole) != 0 && (chosen == NONE || lossAt(i) < least)) {
                chosen = i;
                least = lossAt(i);
            }
        }
        return what == 0 ? chosen : least;
    }

    public int count(int what) {
        switch (what) {
            case 0: return told.threads;
            case 1: return told.orders;
            case 2: return now.day;
            case 3: return now.whole;
            case 4: return now.lost;
            case 5: return bitsIn(now.knots) / 2;
            case 6: return bitsIn(now.over);
            case 7: return past.held;
            case 8: return text.length;
            default: return OUTSIDE;
        }
    }

    private boolean known(int thread) {
        return thread >= 0 && thread < told.threads;
    }

    private boolean knownPair(int one, int other) {
        return known(one) && known(other) && one != other;
    }

    private int lossAt(int thread) {
        return told.lossOf(now.fallOf(thread, now.whole), now.day);
    }

    private static int bit(int place) {
        return 1 << place;
    }

    private static boolean has(int set, int place) {
        return (set >> place & 1) != 0;
    }

    private static int bitsIn(int[] sets) {
        int bits = 0;
        for (int set : sets) {
            bits += Integer.bitCount(set);
        }
        return bits;
    }

    /** One part of a fraction in lowest terms; below is 8 at most, so its divisors are soon tried. */
    private static int lowest(int above, int below, int part) {
        for (int d = below; d > 1; d--) {
            if (above % d == 0 && below % d == 0) {
                return part == 0 ? above / d : below / d;
            }
        }
        return part == 0 ? above : below;
    }

    /** All that links lead to from a set, by steps that stay within another; that set, too. */
    private static int spread(int[] links, int from, int within) {
        int set = from;
        for (int round = 0; round < MOST_THREADS; round++) {
            int wider = set;
            for (int i = 0; i < MOST_THREADS; i++) {
                if (has(set, i)) {
                    wider |= links[i] & within;
                }
            }
            if (wider == set) {
                return set;
            }
            set = wider;
        }
        return set;
    }

    /** Whether one over the other closes a ring: it does if the other is above the one, or is it. */
    private static boolean makesRing(int[] over, int one, int other) {
        return has(spread(over, bit(one), -1), other);
    }

    /** What texts told: days and deeds leave it as it is. */
    private static final class Telling {
        int threads;
        int orders;
        final int[] kinds = new int[MOST_THREADS];
        final int[] lengths = new int[MOST_THREADS];
        final int[] colours = new int[MOST_THREADS];
        final int[] over = new int[MOST_THREADS];
        final int[] knots = new int[MOST_THREADS];
        final int[] orderThreads = new int[MOST_ORDERS];
        final int[] orderDays = new int[MOST_ORDERS];

        void copyFrom(Telling other) {
            threads = other.threads;
            orders = other.orders;
            System.arraycopy(other.kinds, 0, kinds, 0, MOST_THREADS);
            System.arraycopy(other.lengths, 0, lengths, 0, MOST_THREADS);
            System.arraycopy(other.colours, 0, colours, 0, MOST_THREADS);
            System.arraycopy(other.over, 0, over, 0, MOST_THREADS);
            System.arraycopy(other.knots, 0, knots, 0, MOST_THREADS);
            System.arraycopy(other.orderThreads, 0, orderThreads, 0, MOST_ORDERS);
            System.arraycopy(other.orderDays, 0, orderDays, 0, MOST_ORDERS);
        }

        boolean hasRoomFor(int word) {
            if (word <= ENDLESS) {
                return threads < MOST_THREADS;
            }
            return word != CUT || orders < MOST_ORDERS;
        }

        void addThread(int kind, int length, int colour) {
            if (threads >= MOST_THREADS) {
                return;
            }
            kinds[threads] = kind;
            lengths[threads] = length;
            colours[threads] = colour;
            threads++;
        }

        void addOrder(int thread, int day) {
            if (orders >= MOST_ORDERS) {
                return;
            }
            orderThreads[orders] = thread;
            orderDays[orders] = day;
            orders++;
        }

        void empty() {
            threads = 0;
            orders = 0;
            loosen();
        }

        void loosen() {
            for (int i = 0; i < MOST_THREADS; i++) {
                over[i] = 0;
                knots[i] = 0;
            }
        }

        int all() {
            return bit(threads) - 1;
        }

        /** Kinds over one another are numbered from 1 where a thread's own are from 0; 0 is any. */
        boolean isOf(int thread, int kind) {
            int own = kinds[thread];
            return kind == 0 || kind == own + 1 || (kind == PLAIN + 1 && own != ENDLESS);
        }

        boolean isEndless(int thread) {
            return kinds[thread] == ENDLESS;
        }

        int yearsOn(int thread, int day) {
            if (isEndless(thread)) {
                return 0;
            }
            int left = Math.max(0, lengths[thread] - day);
            return kinds[thread] == BRAVE ? 2 * left : left;
        }

        int lossOf(int set, int day) {
            int years = 0;
            for (int i = 0; i < threads; i++) {
                if (has(set, i) && kinds[i] != SILK) {
                    years += yearsOn(i, day);
                }
            }
            return years;
        }

        /** Those of a set that have not run out when a day begins. */
        int lasting(int set, int day) {
            int last = 0;
            for (int i = 0; i < threads; i++) {
                if (has(set, i) && (isEndless(i) || lengths[i] > day)) {
                    last |= bit(i);
                }
            }
            return last;
        }
    }

    /** THE TEXT, and its reading: the token at hand is the fault where reading stops. */
    private static final class Text {
        final int[] letters = new int[MOST_LETTERS];
        int length;
        int clauses;
        private int begin;
        private int end;

        void add(int letter) {
            if (length < MOST_LETTERS) {
                letters[length] = letter;
                length++;
            }
        }

        /** Each clause is done on the trial, so that those behind it meet what it told. */
        int firstFault(Telling trial) {
            clauses = 0;
            end = 0;
            step();
            for (int i = 0; i < MOST_CLAUSES; i++) {
                if (!clauseStands(trial)) {
                    return begin;
                }
                clauses++;
                if (begin >= length) {
                    return NONE;
                }
                if (letters[begin] != ';' || clauses == MOST_CLAUSES) {
                    return begin;
                }
                step();
            }
            return begin;
        }

        private boolean clauseStands(Telling trial) {
            int word = word();
            if (word == NONE || !trial.hasRoomFor(word)) {
                return false;
            }
            step();
            switch (word) {
                case LOOM:
                    trial.empty();
                    return true;
                case CALM:
                    trial.orders = 0;
                    return true;
                case FREE:
                    trial.loosen();
                    return true;
                case OVER:
                    return overStands(trial);
                case KNOT:
                    return knotStands(trial);
                case CUT:
                    return orderStands(trial);
                default:
                    return threadStands(trial, word);
            }
        }

        private boolean threadStands(Telling trial, int kind) {
            int days = number(1, LONGEST);
            if (days == NONE) {
                return false;
            }
            step();
            int colour = number(0, LAST_COLOUR);
            if (colour == NONE) {
                return false;
            }
            step();
            trial.addThread(kind, days, colour);
            return true;
        }

        private boolean overStands(Telling trial) {
            int one = number(0, trial.threads - 1);
            if (one == NONE) {
                return false;
            }
            step();
            int other = number(0, trial.threads - 1);
            if (other == NONE || makesRing(trial.over, one, other)) {
                return false;
            }
            step();
            trial.over[other] |= bit(one);
            return true;
        }

        private boolean knotStands(Telling trial) {
            int one = number(0, trial.threads - 1);
            if (one == NONE) {
                return false;
            }
            step();
            int other = number(0, trial.threads - 1);
            if (other == NONE || other == one) {
                return false;
            }
            step();
            trial.knots[one] |= bit(other);
            trial.knots[other] |= bit(one);
            return true;
        }

        private boolean orderStands(Telling trial) {
            int thread = number(0, trial.threads - 1);
            if (thread == NONE) {
                return false;
            }
            step();
            int day = number(0, LAST_ORDER_DAY);
            if (day == NONE) {
                return false;
            }
            step();
            trial.addOrder(thread, day);
            return true;
        }

        /** On to the next token; behind the last one it is empty, at the text's length. */
        private void step() {
            begin = end;
            while (begin < length && letters[begin] == ' ') {
                begin++;
            }
            end = begin;
            if (end >= length) {
                return;
            }
            int sort = sortOf(letters[begin]);
            end++;
            while (sort != OTHER_SIGN && end < length && sortOf(letters[end]) == sort) {
                end++;
            }
        }

        private static int sortOf(int letter) {
            if (letter >= 'a' && letter <= 'z') {
                return SMALL_LETTER;
            }
            return letter >= '0' && letter <= '9' ? DIGIT : OTHER_SIGN;
        }

        private int number(int low, int high) {
            if (begin >= length || end - begin > MOST_DIGITS || sortOf(letters[begin]) != DIGIT) {
                return NONE;
            }
            int value = 0;
            for (int i = begin; i < end; i++) {
                value = 10 * value + letters[i] - '0';
            }
            return value < low || value > high ? NONE : value;
        }

        private int word() {
            if (isWord("plain")) {
                return PLAIN;
            }
            if (isWord("brave")) {
                return BRAVE;
            }
            if (isWord("silk")) {
                return SILK;
            }
            if (isWord("endless")) {
                return ENDLESS;
            }
            if (isWord("over")) {
                return OVER;
            }
            if (isWord("knot")) {
                return KNOT;
            }
            if (isWord("cut")) {
                return CUT;
            }
            if (isWord("loom")) {
                return LOOM;
            }
            if (isWord("calm")) {
                return CALM;
            }
            return isWord("free") ? FREE : NONE;
        }

        private boolean isWord(String word) {
            if (end - begin != word.length()) {
                return false;
            }
            for (int i = 0; i < word.length(); i++) {
                if (letters[begin + i] != word.charAt(i)) {
                    return false;
                }
            }
            return true;
        }
    }

    /** The loom as it stands on a day: all that days and deeds change, and undo brings back. */
    private static final class Loom {
        private final Telling told;
        int day;
        int lost;
        int whole;
        int cut;
        final int[] colours = new int[MOST_THREADS];
        final int[] over = new int[MOST_THREADS];
        final int[] knots = new int[MOST_THREADS];
        final int[] cutDays = new int[MOST_THREADS];

        Loom(Telling told) {
            this.told = told;
        }

        void begin() {
            day = 0;
            lost = 0;
            whole = told.all();
            cut = 0;
            for (int i = 0; i < MOST_THREADS; i++) {
                colours[i] = told.colours[i];
                over[i] = told.over[i];
                knots[i] = told.knots[i];
                cutDays[i] = NONE;
            }
        }

        void copyFrom(Loom other) {
            day = other.day;
            lost = other.lost;
            whole = other.whole;
            cut = other.cut;
            System.arraycopy(other.colours, 0, colours, 0, MOST_THREADS);
            System.arraycopy(other.over, 0, over, 0, MOST_THREADS);
            System.arraycopy(other.knots, 0, knots, 0, MOST_THREADS);
            System.arraycopy(other.cutDays, 0, cutDays, 0, MOST_THREADS);
        }

        boolean isWhole(int thread) {
            return has(whole, thread);
        }

        int fateOf(int thread) {
            if (has(whole, thread)) {
                return 0;
            }
            return has(cut, thread) ? 1 : 2;
        }

        /** Which are whole is told, so that days to come can be tried without a loom of their own. */
        int topOf(int thread, int among) {
            int at = thread;
            for (int step = 0; step < MOST_THREADS; step++) {
                int above = over[at] & among;
                if (above == 0) {
                    return at;
                }
                at = Integer.numberOfTrailingZeros(above);
            }
            return at;
        }

        int fallOf(int thread, int among) {
            if (!has(among, thread)) {
                return 0;
            }
            int highest = topOf(thread, among);
            return told.isEndless(highest) ? 0 : spread(knots, bit(highest), among);
        }

        int cutAt(int thread) {
            int set = fallOf(thread, whole);
            lost += told.lossOf(set, day);
            whole &= ~set;
            cut |= set;
            for (int i = 0; i < MOST_THREADS; i++) {
                if (has(set, i)) {
                    cutDays[i] = day;
                }
            }
            return set;
        }

        void endDays(int days) {
            for (int i = 0; i < days; i++) {
                endDay();
            }
        }

        private void endDay() {
            for (int i = 0; i < told.orders; i++) {
                if (told.orderDays[i] == day) {
                    cutAt(told.orderThreads[i]);
                }
            }
            day++;
            whole = told.lasting(whole, day);
        }

        int liesOver(int thread) {
            int under = 0;
            for (int i = 0; i < MOST_THREADS; i++) {
                if (has(over[i], thread)) {
                    under++;
                }
            }
            return under;
        }

        void takeOff(int thread) {
            for (int i = 0; i < MOST_THREADS; i++) {
                over[i] &= ~bit(thread);
            }
        }

        /** The days that a thread can give and have so many years left; one short already gives none. */
        int canGive(int thread, int years) {
            if (!isWhole(thread) || told.isEndless(thread)) {
                return 0;
            }
            int perDay = told.kinds[thread] == BRAVE ? 2 : 1;
            return Math.max(0, (told.yearsOn(thread, day) - years) / perDay);
        }
    }

    /** The looms ahead of the latest deeds, in a ring: a ninth takes the place of the oldest. */
    private static final class Past {
        private final Loom[] ring = new Loom[MOST_UNDONE];
        private int next;
        int held;

        Past(Telling told) {
            for (int i = 0; i < MOST_UNDONE; i++) {
                ring[i] = new Loom(told);
            }
        }

        void remember(Loom now) {
            ring[next].copyFrom(now);
            next = (next + 1) % MOST_UNDONE;
            held = Math.min(MOST_UNDONE, held + 1);
        }

        void bringBack(Loom now) {
            if (held == 0) {
                return;
            }
            next = (next + MOST_UNDONE - 1) % MOST_UNDONE;
            held--;
            now.copyFrom(ring[next]);
        }
    }

    /** Deals the days of orders to come among them; goes by days, so that like beginnings are run once. */
    private static final class Dealing {
        private final Telling told;
        private final Loom now;
        private final int[] days = new int[MOST_ORDERS];
        private final int[] row = new int[MOST_ORDERS];
        private int slots;
        final int[] first = new int[MOST_ORDERS];
        int least;

        Dealing(Telling told, Loom now) {
            this.told = told;
            this.now = now;
        }

        void deal() {
            slots = 0;
            int coming = 0;
            for (int i = 0; i < told.orders; i++) {
                row[i] = told.orderDays[i];
                if (row[i] >= now.day) {
                    addDay(row[i]);
                    coming |= bit(i);
                }
            }
            least = ABOVE_ALL_LOSS;
            dealFrom(0, NONE, coming, now.whole, 0);
        }

        private void addDay(int day) {
            if (slots >= MOST_ORDERS) {
                return;
            }
            int at = slots;
            while (at > 0 && days[at - 1] > day) {
                days[at] = days[at - 1];
                at--;
            }
            days[at] = day;
            slots++;
        }

        /** Orders of one day are done by their numbers, so a like day goes to a later order only. */
        private void dealFrom(int slot, int before, int coming, int whole, int loss) {
            if (loss > least) {
                return;
            }
            if (slot >= slots) {
                take(loss);
                return;
            }
            int day = days[slot];
            int among = told.lasting(whole, day);
            boolean like = slot > 0 && days[slot - 1] == day;
            for (int i = like ? before + 1 : 0; i < told.orders; i++) {
                if (has(coming, i)) {
                    dealTo(i, slot, coming, among, loss);
                }
            }
        }

        private void dealTo(int order, int slot, int coming, int whole, int loss) {
            int day = days[slot];
            int set = now.fallOf(told.orderThreads[order], whole);
            row[order] = day;
            dealFrom(slot + 1, order, coming & ~bit(order), whole & ~set, loss + told.lossOf(set, day));
        }

        private void take(int loss) {
            if (loss < least || isAhead()) {
                least = loss;
                System.arraycopy(row, 0, first, 0, MOST_ORDERS);
            }
        }

        private boolean isAhead() {
            for (int i = 0; i < told.orders; i++) {
                if (row[i] != first[i]) {
                    return row[i] < first[i];
                }
            }
            return false;
        }
    }

    /** Gives tails away in every way, rows in their order, so that the first of the best stays. */
    private static final class Tailing {
        private final Telling told;
        private final Loom now;
        private final int[] row = new int[MOST_THREADS];
        final int[] first = new int[MOST_THREADS];
        int most;

        Tailing(Telling told, Loom now) {
            this.told = told;
            this.now = now;
        }

        void give() {
            most = NONE;
            giveFrom(0, now.whole, 0);
        }

        private void giveFrom(int thread, int free, int days) {
            if (thread >= told.threads || thread >= MOST_THREADS) {
                take(days);
                return;
            }
            row[thread] = NONE;
            giveFrom(thread + 1, free, days);
            if (!has(now.cut, thread) || told.isEndless(thread)) {
                return;
            }
            for (int to = 0; to < told.threads; to++) {
                if (has(free, to) && fits(thread, to)) {
                    giveTo(to, thread, free, days);
                }
            }
        }

        private void giveTo(int to, int thread, int free, int days) {
            int tail = told.lengths[thread] - now.cutDays[thread];
            row[thread] = to;
            giveFrom(thread + 1, free & ~bit(to), days + tail);
        }

        private boolean fits(int thread, int to) {
            return !told.isEndless(to) && now.colours[to] == now.colours[thread];
        }

        private void take(int days) {
            if (days > most) {
                most = days;
                System.arraycopy(row, 0, first, 0, MOST_THREADS);
            }
        }
    }
}
