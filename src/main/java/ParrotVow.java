/** A brotherhood sworn to silence by a parrot: ../shared/DOC.md says what each call does. */
public final class ParrotVow {
    private static final int LOW = -1000000000;
    private static final int BEYOND = 1;
    private static final int NONE = 2;
    private static final int STATE = 3;
    private static final int FULL = 4;
    private static final int KIND = 5;
    private static final int PARTED = 6;

    private static final int KINDS = 7;
    private static final int BROTHER = 0;
    private static final int CAREFUL = 1;
    private static final int BOLD = 2;
    private static final int TUESDAY = 3;
    private static final int MUTE = 4;
    private static final int COUGHER = 5;
    /** The KIND above each KIND; -1 above the topmost. */
    private static final int[] ABOVE = {-1, 0, 0, 0, 1, 2, 0};

    private static final int MARKS = 6;
    private static final int SAYINGS = 64;
    private static final int VOWS = 729;
    private static final int EITHER_ALL = 728;

    private static final int MOST_BROTHERS = 6;
    private static final int MOST_SIGNS = 24;
    private static final int MOST_BYTES = 60;
    private static final int MOST_WAITING = 24;
    private static final int MOST_TRACED = 30;
    private static final int MOST_NUMBERS = 24;
    private static final int MOST_OPEN = 5;
    private static final int MOST_DAYS = 20;
    private static final int SHEETS = 4;
    private static final int LAST_DAY = 9999;
    private static final int MOST_KEPT = 99999;

    private static final String AVOID_NAMES = "abf";
    private static final String TALK_NAMES = "tsd";

    private static final int VOICES = 4;
    private static final int COUGHS = 0;
    private static final int TALKS = 1;
    private static final int HUSHES = 2;
    private static final int PARTS = 3;
    /** The BODY of each KIND (a row of four) for each VOICE; 0 where it has none of its own. */
    private static final int[] BODIES = {
        10, 11, 12, 13,
        20, 0, 0, 21,
        0, 30, 0, 0,
        0, 0, 40, 0,
        50, 0, 51, 0,
        0, 60, 0, 0,
        70, 71, 0, 0
    };
    /** Far above the few levels that the BODIES can reach. */
    private static final int DEEPEST = 40;

    private final State state = new State();
    private final State kept = new State();
    private boolean hasImage = false;
    private int imagesMade = 0;
    private final Vows known = new Vows();
    private final Reader reader = new Reader(state.tape);
    private final Worker worker = new Worker();
    private final Voices choir = new Voices();
    private final Sheet[] sheets = new Sheet[SHEETS];
    private final int[] errors = new int[PARTED + 1];

    public ParrotVow() {
        for (int i = 0; i < SHEETS; i++) {
            sheets[i] = new Sheet();
        }
        known.refit(state.signs);
    }

    // ---- brothers, signs

    public int brother(int km) {
        if (!isKindAndNumber(km)) {
            return error(BEYOND);
        }
        if (state.brothers() >= MOST_BROTHERS) {
            return error(FULL);
        }
        state.kinds.add(km / 10);
        state.ms.add(km % 10);
        state.said.add(0);
        return state.brothers() - 1;
    }

    public int brotherIs(int brother, int what) {
        if (!isBrother(brother) || !within(what, 0, 3)) {
            return error(BEYOND);
        }
        switch (what) {
            case 0:
                return state.kinds.get(brother);
            case 1:
                return state.ms.get(brother);
            case 2:
                return state.said.get(brother);
            default:
                return Long.bitCount(avoided(brother));
        }
    }

    public int become(int brother, int km) {
        if (!isBrother(brother) || !isKindAndNumber(km)) {
            return error(BEYOND);
        }
        int was = state.kinds.get(brother);
        state.kinds.set(brother, km / 10);
        state.ms.set(brother, km % 10);
        return was;
    }

    public int as(int brother, int kind) {
        if (!isBrother(brother) || !within(kind, 0, KINDS - 1)) {
            return error(BEYOND);
        }
        if (!isUnder(state.kinds.get(brother), kind)) {
            return error(KIND);
        }
        return state.ms.get(brother);
    }

    public int avoids(int brother, int saying) {
        if (!isBrother(brother) || !isSaying(saying)) {
            return error(BEYOND);
        }
        return isAvoided(brother, saying) ? 1 : 0;
    }

    public int talk(int brother, int saying) {
        if (!isBrother(brother) || !isSaying(saying)) {
            return error(BEYOND);
        }
        return talkOf(brother, saying);
    }

    public int vow(int v) {
        if (!within(v, 0, VOWS - 1)) {
            return error(BEYOND);
        }
        int was = state.vow;
        state.vow = v;
        return was;
    }

    public int sign(int saying, int felt) {
        if (!isSaying(saying) || !within(felt, 0, 1)) {
            return error(BEYOND);
        }
        if (state.signs.many() >= MOST_SIGNS) {
            return error(FULL);
        }
        state.addSign(saying, felt);
        known.refit(state.signs);
        return known.fitting();
    }

    public int forget(int n) {
        if (!within(n, 0, state.signs.many())) {
            return error(BEYOND);
        }
        state.signs.drop(n);
        known.refit(state.signs);
        return known.fitting();
    }

    public int say(int brother, int saying) {
        if (!isBrother(brother) || !isSaying(saying)) {
            return error(BEYOND);
        }
        if (isAvoided(brother, saying)) {
            return error(STATE);
        }
        return says(brother, saying, false);
    }

    // ---- texts

    public int feed(long word, int n) {
        if (!within(n, 1, 8)) {
            return error(BEYOND);
        }
        if (state.tape.many() + n > MOST_BYTES) {
            return error(FULL);
        }
        for (int i = 0; i < n; i++) {
            state.tape.add((int) (word >>> (8 * i)) & 255);
        }
        return state.tape.many();
    }

    public int text(int use) {
        Row codes = state.codesOf(use);
        if (codes == null) {
            return error(BEYOND);
        }
        int fault = reader.faultOf(use == 0 ? AVOID_NAMES : TALK_NAMES);
        state.tape.clear();
        if (fault >= 0) {
            return -10 - fault;
        }
        codes.takeAll(reader.codes);
        return 1;
    }

    public int untell(int use) {
        Row codes = state.codesOf(use);
        if (codes == null) {
            return error(BEYOND);
        }
        int was = codes.many() > 0 ? 1 : 0;
        codes.clear();
        return was;
    }

    public int law(int use, int a, int b, int c) {
        if (state.codesOf(use) == null) {
            return error(BEYOND);
        }
        return given(use, a, b, c);
    }

    // ---- days

    public int loose(int n) {
        if (!within(n, 1, MOST_DAYS)) {
            return error(BEYOND);
        }
        if (state.day + n > LAST_DAY) {
            return error(STATE);
        }
        int felt = 0;
        for (int i = 0; i < n; i++) {
            felt += looseDay();
        }
        return felt;
    }

    public int day(int v) {
        if (!within(v, 0, LAST_DAY)) {
            return error(BEYOND);
        }
        int was = state.day;
        state.day = v;
        return was;
    }

    public int seed(int v) {
        int was = state.z;
        state.z = v;
        return was;
    }

    // ---- vows, the unsaid

    public int vows(int what) {
        if (!within(what, 0, 3)) {
            return error(BEYOND);
        }
        if (what == 0) {
            return known.fitting();
        }
        if (known.fitting() == 0) {
            return error(NONE);
        }
        if (what == 1) {
            return known.least();
        }
        int simplest = known.simplest();
        return what == 2 ? simplest : known.settled(simplest);
    }

    public int parts(int what) {
        if (!within(what, 0, 1)) {
            return error(BEYOND);
        }
        int best = 0;
        for (int s = 1; s < SAYINGS; s++) {
            if (lesserPart(s) > lesserPart(best)) {
                best = s;
            }
        }
        return what == 0 ? best : lesserPart(best);
    }

    public int sure(int bits) {
        if (!isSaying(bits)) {
            return error(BEYOND);
        }
        for (int s = bits; s < SAYINGS; s++) {
            if ((s & bits) == bits && known.broken(s) == 0) {
                return s;
            }
        }
        return error(NONE);
    }

    public long unsaid(int what) {
        if (!within(what, 0, 1)) {
            return error(BEYOND);
        }
        long set = state.brothers() > 0 ? -1L : 0L;
        for (int i = 0; i < state.brothers(); i++) {
            set &= avoided(i);
        }
        return what == 0 ? set : Long.bitCount(set);
    }

    public int freest(int what) {
        if (!within(what, 0, 1)) {
            return error(BEYOND);
        }
        if (state.brothers() == 0) {
            return error(STATE);
        }
        int who = 0;
        int most = freedom(0);
        for (int i = 1; i < state.brothers(); i++) {
            int much = freedom(i);
            if (much > most) {
                who = i;
                most = much;
            }
        }
        return what == 0 ? who : most;
    }

    public int odds(int saying, int part) {
        if (!isSaying(saying) || !within(part, 0, 1)) {
            return error(BEYOND);
        }
        if (known.fitting() == 0) {
            return error(STATE);
        }
        int above = known.broken(saying);
        int below = known.fitting();
        int common = commonDivisor(above, below);
        if (common == 0) {
            return 0;
        }
        return part == 0 ? above / common : below / common;
    }

    public int fits(int sheet, int what) {
        Sheet told = sheetOf(sheet);
        if (told == null || !within(what, 0, 1)) {
            return error(BEYOND);
        }
        if (told.isMissing()) {
            return error(NONE);
        }
        int many = known.fittingAs(told.numbers);
        if (what == 0) {
            return many;
        }
        return many == 0 ? error(NONE) : known.leastAs(told.numbers);
    }

    // ---- voices, sheets, images, what is told

    public int voice(int brother, int voice, int x) {
        if (!isBrother(brother) || !within(voice, 0, VOICES - 1)) {
            return error(BEYOND);
        }
        int answer = choir.hear(brother, state.kinds.get(brother), state.ms.get(brother), voice, x);
        return choir.parted ? error(PARTED) : answer;
    }

    public int body(int i) {
        return choir.trace.has(i) ? choir.trace.get(i) : error(NONE);
    }

    public int sheet(int sheet, int bits, int n) {
        Sheet made = sheetOf(sheet);
        if (made == null || !isWidth(bits)) {
            return error(BEYOND);
        }
        if (bits == 0) {
            made.remake(0, 0);
            return 1;
        }
        if (n < 0) {
            return error(STATE);
        }
        if (n > MOST_NUMBERS) {
            return error(BEYOND);
        }
        made.remake(bits, n);
        return 1;
    }

    public int put(int sheet, int i, int v) {
        Sheet told = sheetOf(sheet);
        if (told == null) {
            return error(BEYOND);
        }
        if (told.isMissing()) {
            return error(NONE);
        }
        if (!told.numbers.has(i)) {
            return error(BEYOND);
        }
        told.numbers.set(i, told.lowestBits(v));
        return 1;
    }

    public int move(int sheet, int i, int other, int j, int n) {
        Sheet from = sheetOf(sheet);
        Sheet to = sheetOf(other);
        if (from == null || to == null) {
            return error(BEYOND);
        }
        if (from.isMissing() || to.isMissing()) {
            return error(NONE);
        }
        if (from.bits != to.bits) {
            return error(KIND);
        }
        if (!from.numbers.hasRun(i, n) || !to.numbers.hasRun(j, n)) {
            return error(BEYOND);
        }
        to.numbers.takeRun(from.numbers, i, j, n);
        return n;
    }

    public int signs(int sheet) {
        Sheet told = sheetOf(sheet);
        if (told == null) {
            return error(BEYOND);
        }
        if (told.isMissing()) {
            return error(NONE);
        }
        int n = 0;
        while (n < told.numbers.many() && isSaying(told.numbers.get(n))
                && state.signs.many() < MOST_SIGNS) {
            int saying = told.numbers.get(n);
            state.addSign(saying, known.breaks(saying, state.vow) ? 1 : 0);
            n++;
        }
        known.refit(state.signs);
        return n;
    }

    public int judge(int sheet) {
        Sheet told = sheetOf(sheet);
        if (told == null) {
            return error(BEYOND);
        }
        if (told.isMissing()) {
            return error(NONE);
        }
        int n = 0;
        while (n < told.numbers.many() && told.numbers.get(n) == known.broken(n)) {
            n++;
        }
        return n;
    }

    public int image() {
        kept.takeAll(state);
        hasImage = true;
        imagesMade++;
        return imagesMade;
    }

    public int restore() {
        if (!hasImage) {
            return error(NONE);
        }
        state.takeAll(kept);
        known.refit(state.signs);
        return state.day;
    }

    public int tell(int v) {
        if (state.waiting.many() >= MOST_WAITING) {
            return error(FULL);
        }
        state.waiting.add(v);
        return state.waiting.many();
    }

    public int check() {
        int wrong = state.waiting.many();
        for (int i = wrong - 1; i >= 0; i--) {
            if (!isBrother(i) || state.said.get(i) != state.waiting.get(i)) {
                wrong = i;
            }
        }
        int answer = wrong < state.waiting.many() ? 1 + wrong : 0;
        state.waiting.clear();
        return answer;
    }

    public int count(int what) {
        switch (what) {
            case 0:
                return state.brothers();
            case 1:
                return state.signs.many();
            case 2:
                return state.day;
            case 3:
                return state.worth;
            case 4:
                return state.vow;
            case 5:
                return state.tape.many();
            case 6:
                return state.waiting.many();
            case 7:
                return choir.trace.many();
            case 8:
                return state.z;
            default:
                return error(BEYOND);
        }
    }

    public int told(int k) {
        return within(k, 1, PARTED) ? errors[k] : error(BEYOND);
    }

    // ---- what the calls ask in common

    private int error(int k) {
        if (within(k, 1, PARTED)) {
            errors[k]++;
        }
        return LOW - k;
    }

    private static boolean within(int v, int low, int high) {
        return v >= low && v <= high;
    }

    private static int held(int v, int low, int high) {
        return Math.max(low, Math.min(high, v));
    }

    private static boolean isSaying(int v) {
        return within(v, 0, SAYINGS - 1);
    }

    private static boolean isKindAndNumber(int km) {
        return within(km, 0, 10 * KINDS - 1);
    }

    private static boolean isWidth(int bits) {
        return bits == 0 || bits == 8 || bits == 16 || bits == 32;
    }

    private boolean isBrother(int i) {
        return state.kinds.has(i);
    }

    private Sheet sheetOf(int i) {
        return within(i, 0, SHEETS - 1) ? sheets[i] : null;
    }

    private static int kindAbove(int kind) {
        return within(kind, 0, KINDS - 1) ? ABOVE[kind] : -1;
    }

    private static boolean isUnder(int kind, int wanted) {
        int at = kind;
        for (int i = 0; i < KINDS && at >= 0; i++) {
            if (at == wanted) {
                return true;
            }
            at = kindAbove(at);
        }
        return false;
    }

    private static int commonDivisor(int a, int b) {
        int x = a;
        int y = b;
        for (int i = 0; i < 100 && y != 0; i++) {
            int rest = x % y;
            x = y;
            y = rest;
        }
        return x;
    }

    // ---- what brothers avoid, tell and say

    private boolean shuns(int brother, int s) {
        int m = state.ms.get(brother);
        int b = known.broken(s);
        int f = known.fitting();
        switch (state.kinds.get(brother)) {
            case BROTHER:
                return 10 * b > m * f;
            case CAREFUL:
                return b > 0;
            case BOLD:
                return 2 * b > f;
            case TUESDAY:
                return 10 * b > m * f && state.day % 7 == 2;
            case MUTE:
                return b > 0 || s % 2 == m % 2;
            case COUGHER:
                return 2 * b > f && b == f;
            default:
                return s == m;
        }
    }

    private int tells(int brother, int s) {
        int plain = Integer.bitCount(s) + state.ms.get(brother);
        switch (state.kinds.get(brother)) {
            case BROTHER:
            case TUESDAY:
                return plain;
            case CAREFUL:
                return plain / 2;
            case BOLD:
                return plain + s % 5;
            case MUTE:
                return 0;
            case COUGHER:
                return plain + s % 5 - 1;
            default:
                return plain + state.day % 3;
        }
    }

    private boolean isAvoided(int brother, int s) {
        return given(0, shuns(brother, s) ? 1 : 0, known.broken(s), known.fitting()) == 1;
    }

    private int talkOf(int brother, int s) {
        return given(1, tells(brother, s), s, state.day % 7);
    }

    private int given(int use, int a, int b, int c) {
        Row codes = state.codesOf(use);
        int free = codes == null || codes.many() == 0 ? a : worker.work(codes, a, b, c);
        return held(free, 0, use == 0 ? 1 : 99);
    }

    /** The SAYINGS that a BROTHER AVOIDS, a bit each. */
    private long avoided(int brother) {
        long set = 0L;
        for (int s = 0; s < SAYINGS; s++) {
            if (isAvoided(brother, s)) {
                set |= 1L << s;
            }
        }
        return set;
    }

    /** TALK of a BROTHER with all that he may say and that surely breaks nothing. */
    private int freedom(int brother) {
        int sum = 0;
        for (int s = 0; s < SAYINGS; s++) {
            if (known.broken(s) == 0 && !isAvoided(brother, s)) {
                sum += talkOf(brother, s);
            }
        }
        return sum;
    }

    private int lesserPart(int s) {
        int b = known.broken(s);
        return Math.min(b, known.fitting() - b);
    }

    private int says(int brother, int s, boolean slip) {
        int talk = talkOf(brother, s);
        state.said.set(brother, Math.min(MOST_KEPT, state.said.get(brother) + 1));
        state.worth = Math.min(MOST_KEPT, state.worth + talk);
        int felt = known.breaks(s, state.vow) != slip ? 1 : 0;
        if (state.signs.many() < MOST_SIGNS) {
            state.addSign(s, felt);
            known.refit(state.signs);
        }
        return felt;
    }

    /** One DAY BY DRAWS: 1 if something was FELT. */
    private int looseDay() {
        int felt = 0;
        int brothers = state.brothers();
        if (brothers > 0) {
            int who = state.draw() % brothers;
            int saying = state.draw() % SAYINGS;
            boolean slip = state.draw() % 16 == 0;
            if (!isAvoided(who, saying)) {
                felt = says(who, saying, slip);
            }
        }
        state.day++;
        return felt;
    }

    /** Numbers one behind the other, made once with room for the most that may come. */
    private static final class Row {
        private final int[] cells;
        private int many = 0;

        Row(int most) {
            cells = new int[Math.max(0, most)];
        }

        int many() {
            return many;
        }

        boolean has(int i) {
            return i >= 0 && i < many;
        }

        /** 0 where there is none. */
        int get(int i) {
            return i >= 0 && i < many && i < cells.length ? cells[i] : 0;
        }

        void set(int i, int v) {
            if (i >= 0 && i < many && i < cells.length) {
                cells[i] = v;
            }
        }

        /** Without room the number is left out. */
        void add(int v) {
            if (many >= 0 && many < cells.length) {
                cells[many] = v;
                many++;
            }
        }

        void clear() {
            many = 0;
        }

        void drop(int n) {
            many = Math.max(0, many - Math.max(0, n));
        }

        int pop() {
            int last = get(many - 1);
            many = Math.max(0, many - 1);
            return last;
        }

        void zeros(int n) {
            many = held(n, 0, cells.length);
            for (int i = 0; i < many; i++) {
                set(i, 0);
            }
        }

        /** n may be so great that i + n wraps. */
        boolean hasRun(int i, int n) {
            return n >= 0 && i >= 0 && n <= many - i;
        }

        void takeRun(Row from, int i, int j, int n) {
            if (from.hasRun(i, n) && hasRun(j, n)) {
                System.arraycopy(from.cells, i, cells, j, n);
            }
        }

        void takeAll(Row from) {
            many = Math.min(from.many, cells.length);
            takeRun(from, 0, 0, many);
        }
    }

    /** All that an IMAGE keeps. */
    private static final class State {
        final Row kinds = new Row(MOST_BROTHERS);
        final Row ms = new Row(MOST_BROTHERS);
        final Row said = new Row(MOST_BROTHERS);
        /** Each SIGN is twice its SAYING, and 1 more where something was FELT. */
        final Row signs = new Row(MOST_SIGNS);
        final Row tape = new Row(MOST_BYTES);
        final Row avoidCodes = new Row(MOST_BYTES);
        final Row talkCodes = new Row(MOST_BYTES);
        final Row waiting = new Row(MOST_WAITING);
        int vow = EITHER_ALL;
        int day = 0;
        int worth = 0;
        int z = 1;

        int brothers() {
            return kinds.many();
        }

        /** The TEXT of a USE, which has no codes if there is none; null: no such USE. */
        Row codesOf(int use) {
            if (use == 0) {
                return avoidCodes;
            }
            return use == 1 ? talkCodes : null;
        }

        void addSign(int saying, int felt) {
            signs.add(2 * saying + felt);
        }

        int draw() {
            z = z * 1103515245 + 12345;
            return z >>> 8;
        }

        void takeAll(State from) {
            kinds.takeAll(from.kinds);
            ms.takeAll(from.ms);
            said.takeAll(from.said);
            signs.takeAll(from.signs);
            tape.takeAll(from.tape);
            avoidCodes.takeAll(from.avoidCodes);
            talkCodes.takeAll(from.talkCodes);
            waiting.takeAll(from.waiting);
            vow = from.vow;
            day = from.day;
            worth = from.worth;
            z = from.z;
        }
    }

    /** All VOWS, by which SAYINGS they are broken, and which of them FIT. */
    private static final class Vows {
        /** The VOW whose figures are 1 for the marks of a SAYING and 0 for the others. */
        private final int[] spread = new int[SAYINGS];
        /** The SAYINGS that BREAK a VOW, a bit each. */
        private final long[] breakers = new long[VOWS];
        private final boolean[] fit = new boolean[VOWS];
        private int fitting = 0;
        /** B of each SAYING, or -1 where it has not been asked for since the latest SIGN. */
        private final int[] counted = new int[SAYINGS];

        Vows() {
            for (int s = 0; s < SAYINGS; s++) {
                int power = 1;
                for (int k = 0; k < MARKS; k++) {
                    spread[s] += (s >>> k & 1) * power;
                    power *= 3;
                }
            }
            for (int s = 0; s < SAYINGS; s++) {
                for (int either = 0; either < SAYINGS; either++) {
                    int vow = vowOf(s, either);
                    if (vow >= 0 && vow < VOWS) {
                        breakers[vow] |= 1L << s;
                    }
                }
            }
        }

        /** The VOW that tells the marks of s as they are, but for those that are either. */
        private int vowOf(int s, int either) {
            int ofMarks = s & ~either & SAYINGS - 1;
            return 2 * spread[either & SAYINGS - 1] + spread[ofMarks];
        }

        boolean breaks(int s, int vow) {
            return isSaying(s) && within(vow, 0, VOWS - 1) && (breakers[vow] >>> s & 1L) != 0L;
        }

        void refit(Row signs) {
            long felt = 0L;
            long unfelt = 0L;
            for (int i = 0; i < signs.many(); i++) {
                long saying = 1L << (signs.get(i) / 2);
                if (signs.get(i) % 2 == 1) {
                    felt |= saying;
                } else {
                    unfelt |= saying;
                }
            }
            for (int s = 0; s < SAYINGS; s++) {
                counted[s] = -1;
            }
            fitting = 0;
            for (int v = 0; v < VOWS; v++) {
                fit[v] = (breakers[v] & felt) == felt && (breakers[v] & unfelt) == 0L;
                fitting += fit[v] ? 1 : 0;
            }
        }

        /** F. */
        int fitting() {
            return fitting;
        }

        /** B. */
        int broken(int s) {
            if (!isSaying(s)) {
                return 0;
            }
            if (counted[s] < 0) {
                counted[s] = countBroken(s);
            }
            return counted[s];
        }

        /** Only the 64 VOWS that s can BREAK are looked at. */
        private int countBroken(int s) {
            int sum = 0;
            for (int either = 0; either < SAYINGS; either++) {
                int vow = vowOf(s, either);
                if (vow >= 0 && vow < VOWS && fit[vow]) {
                    sum++;
                }
            }
            return sum;
        }

        /** The least that FITS, or -1. */
        int least() {
            for (int v = 0; v < VOWS; v++) {
                if (fit[v]) {
                    return v;
                }
            }
            return -1;
        }

        /** How many figures of a VOW are other than 2. */
        int settled(int vow) {
            int sum = 0;
            int left = vow;
            for (int k = 0; k < MARKS; k++) {
                sum += left % 3 == 2 ? 0 : 1;
                left /= 3;
            }
            return sum;
        }

        /** The SIMPLEST, or -1. */
        int simplest() {
            int best = -1;
            int fewest = MARKS + 1;
            for (int v = 0; v < VOWS; v++) {
                if (fit[v] && settled(v) < fewest) {
                    best = v;
                    fewest = settled(v);
                }
            }
            return best;
        }

        /** The SAYINGS of which a table says that they BREAK it; -1 if it tells no such thing. */
        private long toldBy(Row table) {
            long set = 0L;
            for (int s = 0; s < table.many(); s++) {
                if (!within(table.get(s), 0, 1)) {
                    return -1L;
                }
                set |= (long) table.get(s) << s;
            }
            return set;
        }

        int fittingAs(Row table) {
            long asked = (1L << table.many()) - 1L;
            long told = toldBy(table);
            int sum = 0;
            for (int v = 0; v < VOWS; v++) {
                sum += fit[v] && (breakers[v] & asked) == told ? 1 : 0;
            }
            return sum;
        }

        /** The least that FITS and is as the table says, or -1. */
        int leastAs(Row table) {
            long asked = (1L << table.many()) - 1L;
            long told = toldBy(table);
            for (int v = 0; v < VOWS; v++) {
                if (fit[v] && (breakers[v] & asked) == told) {
                    return v;
                }
            }
            return -1;
        }
    }

    /**
     * Reads a TEXT into codes in the order in which they are worked out on a stack: a number
     * as it is, a NAME as -1, -2, -3, an operator as its byte below 0.
     */
    private static final class Reader {
        private final Row tape;
        final Row codes = new Row(MOST_BYTES);
        private String names = "";
        private int at = 0;
        private boolean faulty = false;

        Reader(Row tape) {
            this.tape = tape;
        }

        /** The FAULT, or -1. */
        int faultOf(String namesOfUse) {
            names = namesOfUse;
            at = 0;
            faulty = false;
            codes.clear();
            readOr(0);
            return faulty || at < tape.many() ? at : -1;
        }

        /** 0 behind the end, which is right because byte 0 is in no TEXT. */
        private int next() {
            return tape.get(at);
        }

        /** After a FAULT nothing is taken any more, so that its place stays. */
        private boolean takes(char c) {
            if (faulty || next() != c) {
                return false;
            }
            at++;
            return true;
        }

        private char takesOneOf(String some) {
            for (int i = 0; i < some.length(); i++) {
                if (takes(some.charAt(i))) {
                    return some.charAt(i);
                }
            }
            return 0;
        }

        private void readOr(int open) {
            readAnd(open);
            for (int i = 0; i < MOST_BYTES && takes('|'); i++) {
                readAnd(open);
                codes.add(-'|');
            }
        }

        private void readAnd(int open) {
            readComparison(open);
            for (int i = 0; i < MOST_BYTES && takes('&'); i++) {
                readComparison(open);
                codes.add(-'&');
            }
        }

        private void readComparison(int open) {
            readSum(open);
            char operator = takesOneOf("<=>");
            if (operator != 0) {
                readSum(open);
                codes.add(-operator);
            }
        }

        private void readSum(int open) {
            readProduct(open);
            char operator = takesOneOf("+-");
            for (int i = 0; i < MOST_BYTES && operator != 0; i++) {
                readProduct(open);
                codes.add(-operator);
                operator = takesOneOf("+-");
            }
        }

        private void readProduct(int open) {
            readFactor(open);
            char operator = takesOneOf("*/%");
            for (int i = 0; i < MOST_BYTES && operator != 0; i++) {
                readFactor(open);
                codes.add(-operator);
                operator = takesOneOf("*/%");
            }
        }

        private void readFactor(int open) {
            if (faulty) {
                return;
            }
            int name = names.indexOf((char) next());
            if (isDigit()) {
                readNumber();
            } else if (name >= 0) {
                at++;
                codes.add(-1 - name);
            } else if (open < MOST_OPEN && takes('!')) {
                readFactor(open + 1);
                codes.add(-'!');
            } else if (open < MOST_OPEN && takes('(')) {
                readOr(open + 1);
                faulty = !takes(')');
            } else {
                faulty = true;
            }
        }

        private boolean isDigit() {
            return next() >= '0' && next() <= '9';
        }

        private void readNumber() {
            int number = 0;
            for (int i = 0; i < 4 && isDigit(); i++) {
                number = 10 * number + next() - '0';
                at++;
            }
            codes.add(number);
        }
    }

    /** Works out what a Reader has read. */
    private static final class Worker {
        private final Row stack = new Row(MOST_BYTES);

        int work(Row codes, int a, int b, int c) {
            stack.clear();
            for (int i = 0; i < codes.many(); i++) {
                int code = codes.get(i);
                if (code >= 0) {
                    stack.add(code);
                } else if (code == -1) {
                    stack.add(a);
                } else if (code == -2) {
                    stack.add(b);
                } else if (code == -3) {
                    stack.add(c);
                } else if (code == -'!') {
                    stack.add(stack.pop() == 0 ? 1 : 0);
                } else {
                    int right = stack.pop();
                    int left = stack.pop();
                    stack.add(joined(-code, left, right));
                }
            }
            return stack.pop();
        }

        private static int joined(int operator, int left, int right) {
            switch (operator) {
                case '+':
                    return left + right;
                case '-':
                    return left - right;
                case '*':
                    return left * right;
                case '/':
                    return right == 0 ? 0 : left / right;
                case '%':
                    return right == 0 ? 0 : left % right;
                default:
                    return isTrue(operator, left, right) ? 1 : 0;
            }
        }

        private static boolean isTrue(int operator, int left, int right) {
            switch (operator) {
                case '<':
                    return left < right;
                case '=':
                    return left == right;
                case '>':
                    return left > right;
                case '&':
                    return left != 0 && right != 0;
                default:
                    return left != 0 || right != 0;
            }
        }
    }

    /** The BODIES, found by KIND, and THE TRACE that they leave. */
    private static final class Voices {
        final Row trace = new Row(MOST_TRACED);
        boolean parted = false;
        private int k = 0;
        private int kind = 0;
        private int m = 0;

        int hear(int number, int ownKind, int ownM, int voice, int x) {
            k = number;
            kind = ownKind;
            m = ownM;
            parted = false;
            trace.clear();
            return speak(kind, voice, x, 0);
        }

        /** The BODY of a KIND or of the next one above; none begins once PARTED. */
        private int speak(int from, int voice, int x, int depth) {
            int at = from;
            for (int i = 0; i < KINDS && at >= 0 && bodyOf(at, voice) == 0; i++) {
                at = kindAbove(at);
            }
            int number = bodyOf(at, voice);
            if (parted || number == 0 || depth > DEEPEST) {
                return 0;
            }
            trace.add(number);
            return number < 20 ? topmost(number, x, depth + 1)
                : lower(number, kindAbove(at), x, depth + 1);
        }

        private static int bodyOf(int kind, int voice) {
            int place = VOICES * kind + voice;
            return kind >= 0 && within(voice, 0, VOICES - 1) && place < BODIES.length
                ? BODIES[place] : 0;
        }

        private int topmost(int number, int x, int depth) {
            switch (number) {
                case 10:
                    return x + k;
                case 11:
                    return speak(kind, COUGHS, x, depth) * 2;
                case 12:
                    return speak(kind, TALKS, x, depth) - m;
                default:
                    if (m == k) {
                        parted = true;
                        return 0;
                    }
                    return x / (m - k);
            }
        }

        private int lower(int number, int above, int x, int depth) {
            switch (number) {
                case 20:
                    return speak(above, COUGHS, x, depth) - 4;
                case 21:
                    return speak(above, PARTS, x, depth) + speak(kind, TALKS, 1, depth);
                case 30:
                    return 0 - speak(above, TALKS, x, depth);
                case 40:
                    return speak(above, HUSHES, x / 2, depth);
                case 50:
                    return speak(above, COUGHS, x, depth) * 3;
                case 51:
                    return speak(above, HUSHES, x, depth) ^ k;
                case 60:
                    return speak(above, TALKS, x + 1, depth);
                case 70:
                    return 9;
                default:
                    return speak(above, TALKS, x, depth) + m;
            }
        }
    }

    /** A SHEET; one of 0 bits is missing. */
    private static final class Sheet {
        final Row numbers = new Row(MOST_NUMBERS);
        int bits = 0;

        boolean isMissing() {
            return bits == 0;
        }

        void remake(int width, int n) {
            bits = width;
            numbers.zeros(n);
        }

        int lowestBits(int v) {
            if (bits == 8) {
                return (byte) v;
            }
            return bits == 16 ? (short) v : v;
        }
    }
}
