/** A salt flat on which towns that are seen at noon are lent on: DOC.md tells what each call answers. */
public final class MirageLoans {
    public static final int NONE = -1;

    private static final int NOT = -2;
    private static final int NO_LAW = -100;
    private static final int NO_WORTH = -100000;

    private static final int WIDE = 20;
    private static final int MOST_TALL = 9;
    private static final int MOST_THINGS = 6;
    private static final int MOST_SEATS = 6;
    private static final int MOST_BY_HAND = 999;
    private static final int MOST_COINS = 99999;
    private static final int MOST_HOURS = 48;
    private static final int DAY_HOURS = 24;
    private static final int MOST_SEEDS = 20;
    private static final int MOST_UMBRELLAS = 3;
    /** Three of twenty X: 20 * 19 * 18 / 6. */
    private static final int MOST_PITCHES = 1140;
    private static final int SLOTS = 3;

    private static final int SYNTAX = 1;
    private static final int ROOM = 2;
    private static final int TWICE = 3;
    private static final int WRONG = 5;

    /** A word's kind is FIRST_WORD and its place here; so the LAWS stand in a row, and the VARS. */
    private static final String WORDS =
        "thing seat heat seen moved rent interest grace winds begins seed if then else hour day warm far tall across lent side at ";
    private static final String SIGNS = ";=+-*/<()";
    /** Kinds of TOKENS; a SIGN's kind is its byte, which lies between these and FIRST_WORD. */
    private static final int END = 0;
    private static final int NO_TOKEN = 1;
    private static final int NAME = 2;
    private static final int INT = 3;
    private static final int FIRST_WORD = 128;
    private static final int WORD_COUNT = 23;
    private static final int MOST_TOKENS = 400;
    private static final int THING = FIRST_WORD;
    private static final int SEAT = FIRST_WORD + 1;
    private static final int FIRST_LAW = FIRST_WORD + 2;
    private static final int GRACE = FIRST_WORD + 7;
    private static final int WINDS = FIRST_WORD + 8;
    private static final int BEGINS = FIRST_WORD + 9;
    private static final int SEED = FIRST_WORD + 10;
    private static final int IF = FIRST_WORD + 11;
    private static final int THEN = FIRST_WORD + 12;
    private static final int ELSE = FIRST_WORD + 13;
    private static final int FIRST_VAR = FIRST_WORD + 14;

    private static final int LAW_COUNT = 5;
    private static final int HEAT = 0;
    private static final int SEEN = 1;
    private static final int MOVED = 2;
    private static final int RENT = 3;
    private static final int INTEREST = 4;

    private static final int VAR_COUNT = 9;
    private static final int HOUR = 0;
    private static final int DAY = 1;
    private static final int WARM = 2;
    private static final int FAR = 3;
    private static final int TALL = 4;
    private static final int ACROSS = 5;
    private static final int LENT = 6;
    private static final int SIDE = 7;
    private static final int AT = 8;

    private final Tape tape = new Tape();
    private final Grammar grammar = new Grammar();
    private final State now = new State();
    /** What would be is tried out here, so that nothing happens. */
    private final State ahead = new State();
    private final Past past = new Past();
    private final State[] slots = new State[SLOTS];
    private final boolean[] held = new boolean[SLOTS];
    private final Told told = new Told();
    private final int[] tally = new int[WIDE];
    private final int[] spots = new int[MOST_SEATS * MOST_THINGS];
    private final int[] pitch = new int[MOST_UMBRELLAS];
    private final int[] bestPitch = new int[MOST_UMBRELLAS];
    private Flat flat = new Flat();
    private int faultPlace = NONE;

    public MirageLoans() {
        for (int i = 0; i < SLOTS; i++) {
            slots[i] = new State();
        }
    }

    public int feed(int a, int b, int c, int d, int e) {
        if (!tape.hasRoom(20)) {
            return NONE;
        }
        tape.putWord(a);
        tape.putWord(b);
        tape.putWord(c);
        tape.putWord(d);
        tape.putWord(e);
        return tape.size;
    }

    public int back(int n) {
        return tape.drop(n) ? tape.size : NONE;
    }

    public int read() {
        int fault = grammar.parse(tape);
        faultPlace = grammar.place;
        tape.drop(tape.size);
        if (fault == 0) {
            flat = grammar.handOver(flat);
            beginAnew();
        }
        return fault;
    }

    private void beginAnew() {
        now.begin(flat);
        past.clear();
        told.size = 0;
        for (int i = 0; i < SLOTS; i++) {
            held[i] = false;
        }
    }

    public int place() {
        return faultPlace;
    }

    public int thing(int thing, int what) {
        if (!isThing(thing)) {
            return NONE;
        }
        switch (what) {
            case 0: return flat.thingX[thing];
            case 1: return flat.tall[thing];
            case 2: return seatsThatSee(thing);
            case 3: return seatsThatLent(thing);
            default: return NONE;
        }
    }

    public int seat(int seat, int what) {
        if (!isSeat(seat)) {
            return NONE;
        }
        switch (what) {
            case 0: return now.x[seat];
            case 1: return now.coins[seat];
            case 2: return thingsSeenFrom(now.x[seat], flat.heat(now.hour));
            case 3: return thingsLentOn(seat);
            case 4: return now.lentBy(seat);
            case 5: return now.gone[seat];
            case 6: return now.rent[seat];
            default: return NONE;
        }
    }

    public int loan(int seat, int thing, int what) {
        if (!isPair(seat, thing) || what < 0 || what > 1) {
            return NONE;
        }
        int which = loanOf(seat, thing);
        if (now.lent[which] == 0) {
            return NOT;
        }
        return what == 0 ? now.lent[which] : now.unseen[which];
    }

    public int tells(int what, int x, int thing, int n) {
        boolean isOfThing = what == 1 || what == 2;
        boolean isOfLent = what == 2 || what == 3;
        if (isOfThing && !(isX(x) && isThing(thing)) || isOfLent && (n < 0 || n > MOST_BY_HAND)) {
            return NO_LAW;
        }
        int warm = flat.heat(now.hour);
        switch (what) {
            case 0: return warm;
            case 1: return flat.movedFrom(x, thing, now.hour, warm);
            case 2: return flat.rentFrom(x, thing, now.hour, warm, n);
            case 3: return flat.laws.interest(now.hour, warm, n);
            default: return NO_LAW;
        }
    }

    public int lend(int seat, int thing, int n) {
        if (!isPair(seat, thing) || n < 1 || n > MOST_BY_HAND) {
            return NONE;
        }
        int which = loanOf(seat, thing);
        if (now.coins[seat] < n || now.lent[which] != 0 || !seesNow(seat, thing)) {
            return NOT;
        }
        past.push(now);
        now.coins[seat] -= n;
        now.lent[which] = n;
        return now.coins[seat];
    }

    public int call(int seat, int thing) {
        if (!isPair(seat, thing)) {
            return NONE;
        }
        int which = loanOf(seat, thing);
        int lent = now.lent[which];
        if (lent == 0 || now.coins[seat] + lent > MOST_COINS || !seesNow(seat, thing)) {
            return NOT;
        }
        past.push(now);
        now.coins[seat] += lent;
        now.end(which);
        return lent;
    }

    public boolean move(int seat, int x) {
        if (!isSeat(seat) || !isX(x) || now.x[seat] == x) {
            return false;
        }
        past.push(now);
        now.x[seat] = x;
        return true;
    }

    public int hours(int n) {
        if (!isAhead(n)) {
            return NONE;
        }
        if (n > 0) {
            past.push(now);
            flat.pass(now, n, flat.seed, flat.winds);
        }
        return now.hour;
    }

    public boolean undo() {
        return past.pop(now);
    }

    public int sight(int x, int thing, int n) {
        if (!isX(x) || !isThing(thing) || !isAhead(n)) {
            return NONE;
        }
        int hour = now.hour + n;
        int at = flat.spotFrom(x, thing, hour, flat.heat(hour));
        return at == NONE ? NOT : at;
    }

    public int clash(int what) {
        if (what < 0 || what > 1) {
            return NONE;
        }
        findSpotsLentOn();
        int pairs = 0;
        int first = NOT;
        for (int a = 0; a < flat.seats; a++) {
            for (int b = a + 1; b < flat.seats; b++) {
                if (titlesClash(a, b)) {
                    first = pairs == 0 ? 10 * a + b : first;
                    pairs++;
                }
            }
        }
        return what == 0 ? pairs : first;
    }

    private void findSpotsLentOn() {
        int warm = flat.heat(now.hour);
        for (int seat = 0; seat < flat.seats; seat++) {
            for (int thing = 0; thing < flat.things; thing++) {
                int which = loanOf(seat, thing);
                spots[which] = now.lent[which] == 0 ? NONE : flat.spotFrom(now.x[seat], thing, now.hour, warm);
            }
        }
    }

    private boolean titlesClash(int a, int b) {
        for (int one = 0; one < flat.things; one++) {
            int spot = spots[loanOf(a, one)];
            for (int other = 0; other < flat.things && spot != NONE; other++) {
                if (other != one && spots[loanOf(b, other)] == spot) {
                    return true;
                }
            }
        }
        return false;
    }

    public int longFrom(int x, int thing, int n) {
        if (!isX(x) || !isThing(thing) || n < 1 || n > MOST_HOURS) {
            return NONE;
        }
        int seen = 0;
        for (int hour = now.hour; hour < now.hour + n; hour++) {
            if (flat.isSeenFrom(x, thing, hour, flat.heat(hour))) {
                seen++;
            }
        }
        return seen;
    }

    public int best(int thing, int n, int what) {
        if (!isThing(thing) || n < 1 || n > MOST_HOURS || what < 0 || what > 1) {
            return NONE;
        }
        tallySeenHours(thing, n);
        int best = 0;
        for (int x = 1; x < WIDE; x++) {
            if (tally[x] > tally[best]) {
                best = x;
            }
        }
        return what == 0 ? best : tally[best];
    }

    private void tallySeenHours(int thing, int n) {
        for (int x = 0; x < WIDE; x++) {
            tally[x] = 0;
        }
        for (int hour = now.hour; hour < now.hour + n; hour++) {
            int warm = flat.heat(hour);
            for (int x = 0; x < WIDE; x++) {
                if (flat.isSeenFrom(x, thing, hour, warm)) {
                    tally[x]++;
                }
            }
        }
    }

    public int dawns(int x, int thing) {
        if (!isX(x) || !isThing(thing)) {
            return NONE;
        }
        for (int n = 0; n <= MOST_HOURS; n++) {
            int hour = now.hour + n;
            if (flat.isSeenFrom(x, thing, hour, flat.heat(hour))) {
                return n;
            }
        }
        return NOT;
    }

    public int near(int x, int what) {
        if (!isX(x) || what < 0 || what > 1) {
            return NONE;
        }
        int warm = flat.heat(now.hour);
        int nearest = NOT;
        int least = WIDE;
        for (int thing = 0; thing < flat.things; thing++) {
            int spot = flat.spotFrom(x, thing, now.hour, warm);
            if (spot != NONE && Math.abs(spot - x) < least) {
                nearest = thing;
                least = Math.abs(spot - x);
            }
        }
        return what == 0 || nearest == NOT ? nearest : least;
    }

    public int crowd(int at) {
        if (!isX(at)) {
            return NONE;
        }
        int warm = flat.heat(now.hour);
        int bits = 0;
        for (int seat = 0; seat < flat.seats; seat++) {
            for (int thing = 0; thing < flat.things; thing++) {
                if (flat.spotFrom(now.x[seat], thing, now.hour, warm) == at) {
                    bits |= 1 << thing;
                }
            }
        }
        return bits;
    }

    public int rich(int n, int what) {
        if (!isAhead(n) || what < 0 || what > 1) {
            return NONE;
        }
        if (flat.seats == 0) {
            return NOT;
        }
        goAhead(n);
        int richest = 0;
        for (int seat = 1; seat < flat.seats; seat++) {
            if (ahead.wealth(seat) > ahead.wealth(richest)) {
                richest = seat;
            }
        }
        return what == 0 ? richest : ahead.wealth(richest);
    }

    private void goAhead(int n) {
        ahead.copy(now);
        flat.pass(ahead, n, flat.seed, flat.winds);
    }

    public int umbrellas(int k, int i) {
        if (k < 1 || k > MOST_UMBRELLAS || i < NONE || i >= k) {
            return NONE;
        }
        int most = pitchUmbrellas(k);
        return i == NONE ? most : bestPitch[i];
    }

    /** The pitches come by the least X, then the next one: so the first that sees most stays. */
    private int pitchUmbrellas(int k) {
        int warm = flat.heat(now.hour);
        for (int x = 0; x < WIDE; x++) {
            tally[x] = thingsSeenFrom(x, warm);
        }
        for (int i = 0; i < k; i++) {
            pitch[i] = i;
        }
        int most = NONE;
        boolean isNew = true;
        for (int tries = 0; tries < MOST_PITCHES && isNew; tries++) {
            int bits = 0;
            for (int i = 0; i < k; i++) {
                bits |= tally[pitch[i]];
            }
            if (Integer.bitCount(bits) > most) {
                most = Integer.bitCount(bits);
                System.arraycopy(pitch, 0, bestPitch, 0, k);
            }
            isNew = nextPitch(k);
        }
        return most;
    }

    private boolean nextPitch(int k) {
        for (int i = k - 1; i >= 0; i--) {
            if (pitch[i] < WIDE - k + i) {
                pitch[i]++;
                for (int j = i + 1; j < k; j++) {
                    pitch[j] = pitch[j - 1] + 1;
                }
                return true;
            }
        }
        return false;
    }

    public int worth(int seat, int thing, int n, int m) {
        if (!isPair(seat, thing) || n < 1 || n > MOST_BY_HAND || m < 1 || m > MOST_HOURS) {
            return NO_WORTH;
        }
        int which = loanOf(seat, thing);
        ahead.copy(now);
        ahead.keepOnly(NONE);
        ahead.rent[seat] = 0;
        ahead.lent[which] = n;
        flat.pass(ahead, m, 0, 0);
        boolean isBack = flat.isSeenFrom(ahead.x[seat], thing, ahead.hour, flat.heat(ahead.hour));
        return ahead.rent[seat] + (isBack ? ahead.lent[which] : 0) - n;
    }

    public int book(int seat, int n) {
        if (!isSeat(seat) || !isAhead(n)) {
            return NONE;
        }
        goAhead(n);
        return ahead.wealth(seat);
    }

    public int hidden(int x, int to, int t) {
        if (!isX(x) || !isX(to) || t < 1 || t > MOST_TALL) {
            return NONE;
        }
        int reached = unseenOf(1 << x, t, now.hour);
        for (int n = 0; n <= MOST_HOURS; n++) {
            if ((reached >> to & 1) != 0) {
                return n;
            }
            int next = (reached | reached << 1 | reached >> 1) & (1 << WIDE) - 1;
            reached = unseenOf(next, t, now.hour + n + 1);
        }
        return NOT;
    }

    /** Of a party's X (bits) those at which no SEAT SEES it. */
    private int unseenOf(int places, int t, int hour) {
        int warm = flat.heat(hour);
        int left = places;
        for (int x = 0; x < WIDE; x++) {
            for (int seat = 0; seat < flat.seats && (left >> x & 1) != 0; seat++) {
                flat.laws.aim(hour, warm, now.x[seat], x, t);
                if (flat.laws.isSeen()) {
                    left &= ~(1 << x);
                }
            }
        }
        return left;
    }

    public int cool() {
        for (int n = 0; n <= MOST_HOURS; n++) {
            if (thingsSeen(now.hour + n) == 0) {
                return n;
            }
        }
        return NOT;
    }

    public int heatIn(int n) {
        return isAhead(n) ? flat.heat(now.hour + n) : NONE;
    }

    public int lentIn(int seat, int thing, int n) {
        if (!isPair(seat, thing) || !isAhead(n)) {
            return NONE;
        }
        int which = loanOf(seat, thing);
        ahead.copy(now);
        ahead.keepOnly(which);
        flat.pass(ahead, n, flat.seed, flat.winds);
        return ahead.lent[which] == 0 ? NOT : ahead.lent[which];
    }

    public int year(int seat, int thing, int n, int s) {
        if (!isPair(seat, thing) || !isAhead(n) || s < 1 || s > MOST_SEEDS) {
            return NONE;
        }
        int which = loanOf(seat, thing);
        int kept = 0;
        for (int i = 0; i < s && now.lent[which] != 0; i++) {
            ahead.copy(now);
            ahead.keepOnly(which);
            flat.pass(ahead, n, flat.seed + i, flat.winds);
            kept += ahead.lent[which] != 0 ? 1 : 0;
        }
        return kept;
    }

    public int tell(int x, int at, int n) {
        if (!isX(x) || at != NONE && !isX(at) || n < 0 || n > DAY_HOURS) {
            return NONE;
        }
        return told.put(x, at, now.hour + n);
    }

    public int forget() {
        int were = told.size;
        told.size = 0;
        return were;
    }

    public int stands(int k) {
        return isKnown(k) ? told.sift(flat, k) : NONE;
    }

    public int sure(int k, int what) {
        if (!isKnown(k) || what < 0 || what > 1) {
            return NONE;
        }
        told.sift(flat, k);
        return told.common(what == 0);
    }

    public int look(int k, int n) {
        if (!isKnown(k) || n < 0 || n > DAY_HOURS) {
            return NONE;
        }
        return told.sift(flat, k) == 0 ? NOT : told.lookFrom(flat, now.hour + n);
    }

    public boolean hold(int slot) {
        if (slot < 0 || slot >= SLOTS) {
            return false;
        }
        slots[slot].copy(now);
        held[slot] = true;
        return true;
    }

    public boolean restore(int slot) {
        if (slot < 0 || slot >= SLOTS || !held[slot]) {
            return false;
        }
        now.copy(slots[slot]);
        past.clear();
        return true;
    }

    public int count(int what) {
        switch (what) {
            case 0: return flat.things;
            case 1: return flat.seats;
            case 2: return now.hour;
            case 3: return now.hour % DAY_HOURS;
            case 4: return now.hour / DAY_HOURS;
            case 5: return now.loans();
            case 6: return sum(now.lent);
            case 7: return sum(now.coins);
            case 8: return sum(now.gone);
            case 9: return tape.size;
            case 10: return past.size;
            case 11: return told.size;
            case 12: return heldSlots();
            case 13: return Flat.isWind(now.hour, flat.seed, flat.winds) ? 1 : 0;
            case 14: return sum(now.rent);
            case 15: return flat.heat(now.hour);
            case 16: return thingsSeen(now.hour);
            default: return NONE;
        }
    }

    private int heldSlots() {
        int slotsHeld = 0;
        for (int i = 0; i < SLOTS; i++) {
            slotsHeld += held[i] ? 1 : 0;
        }
        return slotsHeld;
    }

    private static boolean isX(int x) {
        return x >= 0 && x < WIDE;
    }

    private static boolean isAhead(int n) {
        return n >= 0 && n <= MOST_HOURS;
    }

    private boolean isThing(int thing) {
        return thing >= 0 && thing < flat.things;
    }

    private boolean isSeat(int seat) {
        return seat >= 0 && seat < flat.seats;
    }

    private boolean isPair(int seat, int thing) {
        return isSeat(seat) && isThing(thing);
    }

    private boolean isKnown(int k) {
        return k >= 0 && k <= told.size;
    }

    private static int loanOf(int seat, int thing) {
        return seat * MOST_THINGS + thing;
    }

    private static int sum(int[] row) {
        int all = 0;
        for (int one : row) {
            all += one;
        }
        return all;
    }

    private static int within(int least, int value, int most) {
        return Math.max(least, Math.min(value, most));
    }

    private boolean seesNow(int seat, int thing) {
        return flat.isSeenFrom(now.x[seat], thing, now.hour, flat.heat(now.hour));
    }

    private int seatsThatSee(int thing) {
        int warm = flat.heat(now.hour);
        int bits = 0;
        for (int seat = 0; seat < flat.seats; seat++) {
            if (flat.isSeenFrom(now.x[seat], thing, now.hour, warm)) {
                bits |= 1 << seat;
            }
        }
        return bits;
    }

    private int seatsThatLent(int thing) {
        int bits = 0;
        for (int seat = 0; seat < flat.seats; seat++) {
            if (now.lent[loanOf(seat, thing)] != 0) {
                bits |= 1 << seat;
            }
        }
        return bits;
    }

    private int thingsLentOn(int seat) {
        int bits = 0;
        for (int thing = 0; thing < flat.things; thing++) {
            if (now.lent[loanOf(seat, thing)] != 0) {
                bits |= 1 << thing;
            }
        }
        return bits;
    }

    private int thingsSeenFrom(int x, int warm) {
        return flat.thingsSeenFrom(x, now.hour, warm);
    }

    /** THINGS that some SEAT SEES at an hour (bits). */
    private int thingsSeen(int hour) {
        int warm = flat.heat(hour);
        int bits = 0;
        for (int seat = 0; seat < flat.seats; seat++) {
            bits |= flat.thingsSeenFrom(now.x[seat], hour, warm);
        }
        return bits;
    }

    /** The bytes that were fed and are not read yet. */
    private static final class Tape {
        private static final int MOST_BYTES = 2000;

        private final byte[] bytes = new byte[MOST_BYTES];
        int size = 0;

        boolean hasRoom(int more) {
            return size + more <= MOST_BYTES;
        }

        void putWord(int word) {
            for (int shift = 24; shift >= 0 && size < MOST_BYTES; shift -= 8) {
                bytes[size] = (byte) (word >> shift);
                size++;
            }
        }

        boolean drop(int n) {
            if (n < 0 || n > size) {
                return false;
            }
            size -= n;
            return true;
        }

        int byteAt(int i) {
            return i >= 0 && i < size ? bytes[i] & 255 : NONE;
        }
    }

    /** The TOKENS of a tape, as many as a text may have and one more, which is one too many or the end. */
    private static final class Tokens {
        private static final int MOST_LETTERS = 8;
        private static final int MOST_DIGITS = 4;
        private static final int KEY_BASE = 27;

        private final long[] words = new long[WORD_COUNT];
        final int[] kinds = new int[MOST_TOKENS + 1];
        final int[] starts = new int[MOST_TOKENS + 1];
        /** An INT's number, or a NAME's key: 8 letters fit into one long, so NAMES need no texts. */
        final long[] values = new long[MOST_TOKENS + 1];
        private int next = 0;

        Tokens() {
            int word = 0;
            long key = 0;
            for (int i = 0; i < WORDS.length() && word < WORD_COUNT; i++) {
                char c = WORDS.charAt(i);
                if (c == ' ') {
                    words[word] = key;
                    word++;
                    key = 0;
                } else {
                    key = withLetter(key, c);
                }
            }
        }

        private static long withLetter(long key, int c) {
            return key * KEY_BASE + (c - 'a' + 1);
        }

        void scan(Tape tape) {
            next = 0;
            for (int i = 0; i <= MOST_TOKENS; i++) {
                skipBlanks(tape);
                starts[i] = next;
                int c = tape.byteAt(next);
                if (c == NONE) {
                    kinds[i] = END;
                } else if (isLetter(c)) {
                    scanLetters(tape, i);
                } else if (isDigit(c)) {
                    scanDigits(tape, i);
                } else {
                    kinds[i] = SIGNS.indexOf((char) c) >= 0 ? c : NO_TOKEN;
                    next++;
                }
            }
        }

        private void skipBlanks(Tape tape) {
            while (next < tape.size && isBlank(tape.byteAt(next))) {
                next++;
            }
        }

        private void scanLetters(Tape tape, int i) {
            int start = next;
            long key = 0;
            while (next < tape.size && isLetter(tape.byteAt(next))) {
                key = withLetter(key, tape.byteAt(next));
                next++;
            }
            values[i] = key;
            kinds[i] = next - start > MOST_LETTERS ? NO_TOKEN : kindOf(key);
        }

        private int kindOf(long key) {
            for (int word = 0; word < WORD_COUNT; word++) {
                if (words[word] == key) {
                    return FIRST_WORD + word;
                }
            }
            return NAME;
        }

        private void scanDigits(Tape tape, int i) {
            int start = next;
            long number = 0;
            while (next < tape.size && isDigit(tape.byteAt(next))) {
                number = number * 10 + (tape.byteAt(next) - '0');
                next++;
            }
            values[i] = number;
            kinds[i] = next - start > MOST_DIGITS ? NO_TOKEN : INT;
        }

        private static boolean isBlank(int c) {
            return c == 9 || c == 10 || c == 13 || c == 32;
        }

        private static boolean isLetter(int c) {
            return c >= 'a' && c <= 'z';
        }

        private static boolean isDigit(int c) {
            return c >= '0' && c <= '9';
        }
    }

    /** Reads a text and finds its FAULT; once there is one, no TOKEN is taken any more. */
    private static final class Grammar {
        private static final int MOST_IFS = 4;
        private static final int MOST_NESTED = 6;

        private final Tokens tokens = new Tokens();
        /** A text is read into this one, so that a text with a FAULT changes nothing. */
        private Flat draft = new Flat();
        private int at = 0;
        private int kind = END;
        private int fault = 0;
        int place = NONE;
        /** What counts only if there is no FAULT of SYNTAX or ROOM. */
        private int slip = 0;
        private int slipPlace = NONE;

        int parse(Tape tape) {
            fault = 0;
            place = NONE;
            slip = 0;
            slipPlace = NONE;
            draft.clear();
            tokens.scan(tape);
            at = 0;
            kind = tokens.kinds[at];
            for (int i = 0; i <= MOST_TOKENS && fault == 0 && kind != END; i++) {
                takeTell();
            }
            if (fault == 0 && slip != 0) {
                fault = slip;
                place = slipPlace;
            }
            return fault;
        }

        /** What was read, for one that is no longer needed: the next text is read into that. */
        Flat handOver(Flat old) {
            Flat fresh = draft;
            draft = old;
            return fresh;
        }

        private void fail(int which) {
            if (fault == 0) {
                fault = which;
                place = tokens.starts[at];
            }
        }

        private void note(int which, int start) {
            if (slip == 0) {
                slip = which;
                slipPlace = start;
            }
        }

        private void take(boolean goesOn) {
            if (fault != 0) {
                return;
            }
            if (!goesOn || at >= MOST_TOKENS) {
                fault = goesOn ? ROOM : SYNTAX;
                place = tokens.starts[at];
            } else {
                at++;
                kind = tokens.kinds[at];
            }
        }

        private void takeTell() {
            int tell = kind;
            if (tell == THING && draft.things >= MOST_THINGS || tell == SEAT && draft.seats >= MOST_SEATS) {
                fail(ROOM);
            }
            take(tell >= THING && tell <= SEED);
            if (tell == THING || tell == SEAT) {
                takeStander(tell == THING);
            } else if (tell >= FIRST_LAW && tell < FIRST_LAW + LAW_COUNT) {
                takeLaw(tell - FIRST_LAW);
            } else {
                takeSetting(tell);
            }
            take(kind == ';');
        }

        private void takeStander(boolean isThing) {
            int start = tokens.starts[at];
            long key = tokens.values[at];
            take(kind == NAME);
            if (fault == 0 && !draft.addName(key)) {
                note(TWICE, start);
            }
            int x = takeInt(0, WIDE - 1);
            int size = isThing ? takeInt(1, MOST_TALL) : takeInt(0, MOST_BY_HAND);
            if (fault == 0) {
                draft.addStander(isThing, x, size);
            }
        }

        private int takeInt(int least, int most) {
            int start = tokens.starts[at];
            int number = (int) tokens.values[at];
            take(kind == INT);
            if (fault == 0 && (number < least || number > most)) {
                note(WRONG, start);
            }
            return number;
        }

        private void takeSetting(int setting) {
            switch (setting) {
                case GRACE: draft.grace = takeInt(1, 99); break;
                case WINDS: draft.winds = takeInt(0, 100); break;
                case BEGINS: draft.begins = takeInt(0, DAY_HOURS - 1); break;
                case SEED: draft.seed = takeInt(0, 9999); break;
                default: fail(SYNTAX);
            }
        }

        private void takeLaw(int law) {
            take(kind == '=');
            draft.laws.open(law);
            for (int ifs = 0; ifs <= MOST_IFS && fault == 0 && kind == IF; ifs++) {
                if (ifs == MOST_IFS) {
                    fail(ROOM);
                }
                take(true);
                takeSum(0);
                take(kind == '<');
                takeSum(0);
                take(kind == THEN);
                int skip = draft.laws.emit(Laws.UNLESS_LESS, 0);
                takeSum(0);
                take(kind == ELSE);
                draft.laws.emit(Laws.GIVE, 0);
                draft.laws.leadOnFrom(skip);
            }
            takeSum(0);
            draft.laws.emit(Laws.GIVE, 0);
        }

        private void takeSum(int depth) {
            takeProduct(depth);
            for (int i = 0; i <= MOST_TOKENS && fault == 0 && (kind == '+' || kind == '-'); i++) {
                int step = kind == '+' ? Laws.ADD : Laws.TAKE;
                take(true);
                takeProduct(depth);
                draft.laws.emit(step, 0);
            }
        }

        private void takeProduct(int depth) {
            takeUnit(depth);
            for (int i = 0; i <= MOST_TOKENS && fault == 0 && (kind == '*' || kind == '/'); i++) {
                int step = kind == '*' ? Laws.TIMES : Laws.PARTS;
                take(true);
                takeUnit(depth);
                draft.laws.emit(step, 0);
            }
        }

        private void takeUnit(int depth) {
            if (fault != 0) {
                return;
            }
            if (kind == INT) {
                draft.laws.emit(Laws.PUT, (int) tokens.values[at]);
                take(true);
            } else if (kind >= FIRST_VAR && kind < FIRST_VAR + VAR_COUNT) {
                draft.laws.emit(Laws.PUT_VAR, kind - FIRST_VAR);
                take(true);
            } else if (kind == '(' && depth < MOST_NESTED) {
                take(true);
                takeSum(depth + 1);
                take(kind == ')');
            } else {
                fail(kind == '(' ? ROOM : SYNTAX);
            }
        }
    }

    /**
     * The LAWS of a text as steps for a small stack, all in one row: what a LAW tells costs no new objects, and a step
     * only ever leads ahead, so each LAW comes to an end.
     */
    private static final class Laws {
        static final int PUT = 0;
        static final int PUT_VAR = 1;
        static final int ADD = 2;
        static final int TAKE = 3;
        static final int TIMES = 4;
        static final int PARTS = 5;
        static final int UNLESS_LESS = 6;
        static final int GIVE = 7;

        /** Each step but those of the five LAWS that hold if none is told stands for a TOKEN, of which there are 400. */
        private static final int MOST_STEPS = 420;
        /** Seven levels of E, two parts waiting in each, and the E on the left of a < : 16 at most. */
        private static final int MOST_STACK = 20;

        private final int[] steps = new int[MOST_STEPS];
        private final int[] values = new int[MOST_STEPS];
        private int size = 0;
        private final int[] from = new int[LAW_COUNT];
        private final int[] vars = new int[VAR_COUNT];
        private final int[] stack = new int[MOST_STACK];

        void clear() {
            size = 0;
            openWithVar(HEAT, HOUR);
            open(SEEN);
            emit(PUT_VAR, WARM);
            emit(PUT_VAR, FAR);
            emit(TAKE, 0);
            emit(GIVE, 0);
            open(MOVED);
            emit(PUT, 0);
            emit(GIVE, 0);
            openWithVar(RENT, TALL);
            open(INTEREST);
            emit(PUT, 0);
            emit(GIVE, 0);
        }

        private void openWithVar(int law, int which) {
            open(law);
            emit(PUT_VAR, which);
            emit(GIVE, 0);
        }

        void open(int law) {
            if (law >= 0 && law < LAW_COUNT) {
                from[law] = size;
            }
        }

        int emit(int step, int value) {
            if (size < MOST_STEPS) {
                steps[size] = step;
                values[size] = value;
                size++;
            }
            return size - 1;
        }

        /** A step that skips leads to what comes behind all that there is so far. */
        void leadOnFrom(int step) {
            if (step >= 0 && step < size) {
                values[step] = size;
            }
        }

        int heat(int hour) {
            clearVars(hour);
            return within(0, reckon(HEAT), 99);
        }

        int interest(int hour, int warm, int lent) {
            clearVars(hour);
            vars[WARM] = warm;
            vars[LENT] = lent;
            return within(0, reckon(INTEREST), 99);
        }

        private void clearVars(int hour) {
            for (int i = 0; i < VAR_COUNT; i++) {
                vars[i] = 0;
            }
            vars[HOUR] = hour % DAY_HOURS;
            vars[DAY] = hour / DAY_HOURS;
        }

        /** From an X a THING is looked at: what isSeen, moved, spot and, last, rent tell is of it. */
        void aim(int hour, int warm, int x, int thingX, int tall) {
            vars[HOUR] = hour % DAY_HOURS;
            vars[DAY] = hour / DAY_HOURS;
            vars[WARM] = warm;
            vars[FAR] = Math.abs(thingX - x);
            vars[TALL] = tall;
            vars[ACROSS] = thingX;
            vars[LENT] = 0;
            vars[SIDE] = thingX > x ? 1 : 0;
            vars[AT] = x;
        }

        boolean isSeen() {
            return reckon(SEEN) > 0;
        }

        int moved() {
            return within(-9, reckon(MOVED), 9);
        }

        int spot() {
            if (!isSeen()) {
                return NONE;
            }
            int away = vars[ACROSS] >= vars[AT] ? moved() : -moved();
            return within(0, vars[ACROSS] + away, WIDE - 1);
        }

        int rent(int lent) {
            vars[LENT] = lent;
            return within(0, reckon(RENT), 99);
        }

        private int reckon(int law) {
            int top = 0;
            int at = from[law];
            while (at >= 0 && at < size) {
                int step = steps[at];
                int value = values[at];
                at++;
                if (step <= PUT_VAR) {
                    if (top >= MOST_STACK) {
                        return 0;
                    }
                    stack[top] = step == PUT ? value : variable(value);
                    top++;
                } else if (step == GIVE) {
                    return top > 0 ? stack[top - 1] : 0;
                } else {
                    if (top < 2 || step == PARTS && stack[top - 1] == 0) {
                        return 0;
                    }
                    top -= 2;
                    if (step == UNLESS_LESS) {
                        at = stack[top] < stack[top + 1] ? at : Math.max(at, value);
                    } else {
                        stack[top] = joined(step, stack[top], stack[top + 1]);
                        top++;
                    }
                }
            }
            return 0;
        }

        private int variable(int which) {
            return which >= 0 && which < VAR_COUNT ? vars[which] : 0;
        }

        private static int joined(int step, int a, int b) {
            switch (step) {
                case ADD: return a + b;
                case TAKE: return a - b;
                case TIMES: return a * b;
                default: return b == 0 ? 0 : a / b;
            }
        }
    }

    /** What a text tells, which stays as it is till the next text. */
    private static final class Flat {
        private final long[] names = new long[MOST_THINGS + MOST_SEATS];
        private int nameCount = 0;
        int things = 0;
        final int[] thingX = new int[MOST_THINGS];
        final int[] tall = new int[MOST_THINGS];
        int seats = 0;
        final int[] seatX = new int[MOST_SEATS];
        final int[] coins = new int[MOST_SEATS];
        int grace = 0;
        int winds = 0;
        int begins = 0;
        int seed = 0;
        final Laws laws = new Laws();

        Flat() {
            clear();
        }

        void clear() {
            nameCount = 0;
            things = 0;
            seats = 0;
            grace = 24;
            winds = 0;
            begins = 0;
            seed = 0;
            laws.clear();
        }

        boolean addName(long key) {
            for (int i = 0; i < nameCount; i++) {
                if (names[i] == key) {
                    return false;
                }
            }
            if (nameCount < names.length) {
                names[nameCount] = key;
                nameCount++;
            }
            return true;
        }

        void addStander(boolean isThing, int x, int size) {
            if (isThing && things < MOST_THINGS) {
                thingX[things] = x;
                tall[things] = size;
                things++;
            } else if (!isThing && seats < MOST_SEATS) {
                seatX[seats] = x;
                coins[seats] = size;
                seats++;
            }
        }

        int heat(int hour) {
            return laws.heat(hour);
        }

        boolean isSeenFrom(int x, int thing, int hour, int warm) {
            laws.aim(hour, warm, x, thingX[thing], tall[thing]);
            return laws.isSeen();
        }

        int spotFrom(int x, int thing, int hour, int warm) {
            laws.aim(hour, warm, x, thingX[thing], tall[thing]);
            return laws.spot();
        }

        int movedFrom(int x, int thing, int hour, int warm) {
            laws.aim(hour, warm, x, thingX[thing], tall[thing]);
            return laws.moved();
        }

        int rentFrom(int x, int thing, int hour, int warm, int lent) {
            laws.aim(hour, warm, x, thingX[thing], tall[thing]);
            return laws.rent(lent);
        }

        int thingsSeenFrom(int x, int hour, int warm) {
            int bits = 0;
            for (int thing = 0; thing < things; thing++) {
                if (isSeenFrom(x, thing, hour, warm)) {
                    bits |= 1 << thing;
                }
            }
            return bits;
        }

        static boolean isWind(int hour, int windSeed, int windsOf100) {
            return lot(windSeed, 4 * hour) < windsOf100;
        }

        /** LOT 100: winds are all that lots are drawn for. */
        private static int lot(int lotSeed, int which) {
            int h = stirred(stirred(lotSeed, 119), which);
            return (h >>> 1) % 100;
        }

        private static int stirred(int h, int it) {
            int mixed = (h ^ it) * 1103515245 + 12345;
            return mixed ^ mixed >>> 15;
        }

        /** The seed and the winds are told anew by who asks: what would be has other ones. */
        void pass(State state, int n, int windSeed, int windsOf100) {
            for (int i = 0; i < n; i++) {
                int warm = heat(state.hour);
                boolean isWind = isWind(state.hour, windSeed, windsOf100);
                for (int seat = 0; seat < seats; seat++) {
                    for (int thing = 0; thing < things; thing++) {
                        passLoan(state, seat, thing, warm, isWind);
                    }
                }
                state.hour++;
            }
        }

        private void passLoan(State state, int seat, int thing, int warm, boolean isWind) {
            int which = loanOf(seat, thing);
            int lent = state.lent[which];
            if (lent == 0) {
                return;
            }
            laws.aim(state.hour, warm, state.x[seat], thingX[thing], tall[thing]);
            if (!isWind && laws.isSeen()) {
                int rent = laws.rent(lent);
                state.coins[seat] = Math.min(MOST_COINS, state.coins[seat] + rent);
                state.rent[seat] += rent;
                state.unseen[which] = 0;
                return;
            }
            state.unseen[which]++;
            if (state.unseen[which] >= grace) {
                state.end(which);
                state.gone[seat]++;
            } else {
                state.lent[which] = Math.min(MOST_COINS, lent + lent * laws.interest(state.hour, warm, lent) / 100);
            }
        }
    }

    /** All that goes on: what is undone, held and gone on from. A loan of 0 is none. */
    private static final class State {
        int hour = 0;
        final int[] x = new int[MOST_SEATS];
        final int[] coins = new int[MOST_SEATS];
        final int[] gone = new int[MOST_SEATS];
        final int[] rent = new int[MOST_SEATS];
        final int[] lent = new int[MOST_SEATS * MOST_THINGS];
        final int[] unseen = new int[MOST_SEATS * MOST_THINGS];

        void begin(Flat flat) {
            hour = flat.begins;
            for (int seat = 0; seat < MOST_SEATS; seat++) {
                x[seat] = seat < flat.seats ? flat.seatX[seat] : 0;
                coins[seat] = seat < flat.seats ? flat.coins[seat] : 0;
                gone[seat] = 0;
                rent[seat] = 0;
            }
            keepOnly(NONE);
        }

        void copy(State other) {
            hour = other.hour;
            System.arraycopy(other.x, 0, x, 0, MOST_SEATS);
            System.arraycopy(other.coins, 0, coins, 0, MOST_SEATS);
            System.arraycopy(other.gone, 0, gone, 0, MOST_SEATS);
            System.arraycopy(other.rent, 0, rent, 0, MOST_SEATS);
            System.arraycopy(other.lent, 0, lent, 0, lent.length);
            System.arraycopy(other.unseen, 0, unseen, 0, unseen.length);
        }

        void end(int which) {
            lent[which] = 0;
            unseen[which] = 0;
        }

        /** Loans do not touch one another: where one is asked for, the others need not go through hours. */
        void keepOnly(int kept) {
            for (int which = 0; which < lent.length; which++) {
                if (which != kept) {
                    end(which);
                }
            }
        }

        int loans() {
            int some = 0;
            for (int one : lent) {
                some += one != 0 ? 1 : 0;
            }
            return some;
        }

        int lentBy(int seat) {
            int all = 0;
            for (int thing = 0; thing < MOST_THINGS; thing++) {
                all += lent[loanOf(seat, thing)];
            }
            return all;
        }

        int wealth(int seat) {
            return coins[seat] + lentBy(seat);
        }
    }

    /** What was ahead of the last things done, in a ring: the oldest gives way. */
    private static final class Past {
        private static final int MOST_UNDONE = 30;

        private final State[] rows = new State[MOST_UNDONE];
        private int next = 0;
        int size = 0;

        Past() {
            for (int i = 0; i < MOST_UNDONE; i++) {
                rows[i] = new State();
            }
        }

        void clear() {
            size = 0;
        }

        void push(State state) {
            rows[next].copy(state);
            next = (next + 1) % MOST_UNDONE;
            size = Math.min(size + 1, MOST_UNDONE);
        }

        boolean pop(State into) {
            if (size == 0) {
                return false;
            }
            size--;
            next = (next + MOST_UNDONE - 1) % MOST_UNDONE;
            into.copy(rows[next]);
            return true;
        }
    }

    /** The sights that were TOLD, and where a THING unknown can stand by them. */
    private static final class Told {
        private static final int MOST_TOLD = 20;
        private static final int STANDS = WIDE * MOST_TALL;

        int size = 0;
        private final int[] x = new int[MOST_TOLD];
        private final int[] at = new int[MOST_TOLD];
        private final int[] hour = new int[MOST_TOLD];
        private final boolean[] isLeft = new boolean[STANDS];
        /** How many are SEEN at each X', one further on: at 0 those that are not SEEN. */
        private final int[] split = new int[WIDE + 1];

        int put(int from, int seenAt, int when) {
            if (size >= MOST_TOLD) {
                return NONE;
            }
            x[size] = from;
            at[size] = seenAt;
            hour[size] = when;
            size++;
            return size - 1;
        }

        private static int xOf(int stand) {
            return stand / MOST_TALL;
        }

        private static int tallOf(int stand) {
            return stand % MOST_TALL + 1;
        }

        int sift(Flat flat, int k) {
            for (int stand = 0; stand < STANDS; stand++) {
                isLeft[stand] = true;
            }
            int left = STANDS;
            for (int i = 0; i < k && i < size; i++) {
                int warm = flat.heat(hour[i]);
                for (int stand = 0; stand < STANDS; stand++) {
                    if (isLeft[stand] && !isSo(flat, i, stand, warm)) {
                        isLeft[stand] = false;
                        left--;
                    }
                }
            }
            return left;
        }

        private boolean isSo(Flat flat, int i, int stand, int warm) {
            flat.laws.aim(hour[i], warm, x[i], xOf(stand), tallOf(stand));
            return flat.laws.spot() == at[i];
        }

        /** The X, or else the TALL, that all which are left have in common. */
        int common(boolean ofX) {
            int only = NOT;
            for (int stand = 0; stand < STANDS; stand++) {
                int one = ofX ? xOf(stand) : tallOf(stand);
                if (isLeft[stand] && only != NOT && only != one) {
                    return NOT;
                }
                only = isLeft[stand] ? one : only;
            }
            return only;
        }

        int lookFrom(Flat flat, int when) {
            int warm = flat.heat(when);
            int best = 0;
            int fewest = STANDS + 1;
            for (int from = 0; from < WIDE; from++) {
                int worst = worstLeft(flat, from, when, warm);
                if (worst < fewest) {
                    fewest = worst;
                    best = from;
                }
            }
            return best;
        }

        private int worstLeft(Flat flat, int from, int when, int warm) {
            for (int i = 0; i <= WIDE; i++) {
                split[i] = 0;
            }
            int worst = 0;
            for (int stand = 0; stand < STANDS; stand++) {
                if (isLeft[stand]) {
                    flat.laws.aim(when, warm, from, xOf(stand), tallOf(stand));
                    int seenAt = flat.laws.spot() + 1;
                    split[seenAt]++;
                    worst = Math.max(worst, split[seenAt]);
                }
            }
            return worst;
        }
    }
}
