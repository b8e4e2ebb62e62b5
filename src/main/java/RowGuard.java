import java.util.Arrays;

/** A guard of a memory bank, as ../shared/DOC.md promises it; words in capitals are that document's terms. */
public final class RowGuard {
    public static final int NONE = -1;

    private static final int NO_SUCH = -2;
    private static final int BAD_NUMBER = -3;
    private static final int NO_ROOM = -4;
    private static final int NOT_NOW = -5;
    private static final int NO_IMAGE = -6;
    private static final int FAULT_BASE = -30;

    private static final int ROWS_AT_FIRST = 8;
    private static final int FEWEST_ROWS = 4;
    private static final int MOST_ROWS = 16;
    private static final int MOST_WAITING = 48;
    private static final int MOST_HAMMERED = 99;
    private static final int MOST_SLOTS = 8;
    private static final int TERMS = 17;
    private static final int TALLIES = 9;
    private static final int SORTS = 4;
    private static final int TAPE_BYTES = 60;
    private static final int PAPER_TICKS = 500;
    private static final int MOST_OWED = 99;
    private static final int MOST_STEP = 99;
    private static final int GUARD_KINDS = 6;
    private static final int DRAW_STATES = 7875;
    private static final int ROWS_TO_SEARCH = 6;
    private static final int LONGEST_ORDER = 5;
    private static final int MOST_UNDO = 10;
    private static final int IMAGES = 2;

    private static final int LIMIT = 0;
    private static final int REACH = 1;
    private static final int GUARD = 2;
    private static final int SIZE = 3;
    private static final int STEP = 4;
    private static final int WINDOW = 5;
    private static final int OPENS = 6;
    private static final int EVERY = 7;
    private static final int TAKES = 8;
    private static final int MANY = 9;
    private static final int NEAR = 10;
    private static final int QUEUE = 11;
    private static final int LATE = 12;
    private static final int CHANCE = 13;
    private static final int KNOWS = 14;
    private static final int HALF = 15;
    private static final int SCRUB = 16;

    private static final int[] TERM_LEAST = {1, 1, 0, 1, 1, 4, 1, 4, 1, 1, 1, 1, 0, 0, 0, 0, 0};
    private static final int[] TERM_GREATEST = {999, 2, 5, 8, 99, 999, 9, 99, 9, 8, 9, 8, 8, 100, 1, 1, 2};
    private static final int[] TERM_FIRST = {24, 1, 0, 2, 4, 64, 1, 16, 1, 1, 1, 1, 0, 10, 1, 0, 0};

    private static final int TABLE = 0;
    private static final int EACH = 1;
    private static final int BY_CHANCE = 2;
    private static final int SKETCH = 3;
    private static final int LATEST = 4;
    private static final int BLOCK = 5;

    private static final int OF_REFRESHING = 0;
    private static final int OF_QUEUE = 1;
    private static final int OF_REQUEST = 2;
    private static final int OF_NONE = 3;

    private static final int TOLD_OPENED = 0;
    private static final int TOLD_WAITS = 1;
    private static final int TOLD_LONGEST = 2;
    private static final int TOLD_FLIPS = 3;
    private static final int TOLD_FIRED = 4;
    private static final int TOLD_NEAR = 5;
    private static final int TOLD_ROUND = 6;
    private static final int TOLD_FIXED = 7;
    private static final int TOLD_LOST = 8;

    private static final int CANNOT_STAND = 1;
    private static final int BAD_COUNT = 2;
    private static final int NO_ROW = 3;
    private static final int TOO_DEEP = 4;
    private static final int TOO_MANY = 5;
    private static final int MOST_OPEN = 3;

    private final Bank now;
    private final Paper paper;
    private final History history;
    private final Tape tape;
    private final Reader reader;
    private int keptFault;
    private int keptPlace;

    public RowGuard() {
        now = new Bank();
        now.startWith(ROWS_AT_FIRST);
        paper = new Paper();
        history = new History();
        tape = new Tape();
        reader = new Reader();
        keptFault = 0;
        keptPlace = NONE;
    }

    // ---- rows, terms, requests

    public int begin(int n) {
        if (n < FEWEST_ROWS || n > MOST_ROWS) {
            return BAD_NUMBER;
        }
        history.keep(now);
        now.startWith(n);
        return n;
    }

    public int terms(int what, int v) {
        if (what < 0 || what >= TERMS) {
            return NO_SUCH;
        }
        if (v < TERM_LEAST[what] || v > TERM_GREATEST[what]) {
            return BAD_NUMBER;
        }
        int was = now.term[what];
        history.keep(now);
        now.setTerm(what, v);
        return was;
    }

    public int swap(int a, int b) {
        if (!now.rows.has(a) || !now.rows.has(b)) {
            return NO_SUCH;
        }
        if (a == b) {
            return BAD_NUMBER;
        }
        history.keep(now);
        return now.rows.exchange(a, b);
    }

    public int store(int r, int v) {
        if (!now.rows.has(r)) {
            return NO_SUCH;
        }
        if (v < 0 || v > 255) {
            return BAD_NUMBER;
        }
        history.keep(now);
        return now.rows.write(r, v);
    }

    public int weak(int r, int v) {
        if (!now.rows.has(r)) {
            return NO_SUCH;
        }
        if (v < 0 || v > 255) {
            return BAD_NUMBER;
        }
        history.keep(now);
        int was = now.rows.weakBits[r];
        now.rows.weakBits[r] = v;
        return was;
    }

    public int feed(int a, int b, int c, int d, int e) {
        if (!tape.hasRoom()) {
            return NO_ROOM;
        }
        tape.append(a);
        tape.append(b);
        tape.append(c);
        tape.append(d);
        tape.append(e);
        return tape.length;
    }

    public int pattern(int n) {
        if (n < 0 || n > tape.length) {
            return BAD_NUMBER;
        }
        reader.read(tape.bytes, n, now.rows.n);
        tape.length = 0;
        keptFault = reader.faultKind;
        keptPlace = reader.faultPlace;
        if (reader.faultKind != 0) {
            return FAULT_BASE - reader.faultKind;
        }
        if (now.waiting.length + reader.length > MOST_WAITING) {
            return NO_ROOM;
        }
        history.keep(now);
        for (int i = 0; i < reader.length; i++) {
            now.waiting.add(reader.found[i], now.time);
        }
        return now.waiting.length;
    }

    public int fault(int what) {
        if (what == 0) {
            return keptFault;
        }
        return what == 1 ? keptPlace : NONE;
    }

    public int ask(int r, int n) {
        if (!now.rows.has(r)) {
            return NO_SUCH;
        }
        if (n < 1 || n > MOST_WAITING) {
            return BAD_NUMBER;
        }
        return tellByTurns(r, r, n);
    }

    public int pair(int a, int b, int n) {
        if (!now.rows.has(a) || !now.rows.has(b)) {
            return NO_SUCH;
        }
        if (n < 1 || n > MOST_WAITING || a == b) {
            return BAD_NUMBER;
        }
        return tellByTurns(a, b, n);
    }

    private int tellByTurns(int a, int b, int n) {
        if (now.waiting.length + n > MOST_WAITING) {
            return NO_ROOM;
        }
        history.keep(now);
        for (int i = 0; i < n; i++) {
            now.waiting.add(i % 2 == 0 ? a : b, now.time);
        }
        return now.waiting.length;
    }

    public int drop() {
        int were = now.waiting.length;
        history.keep(now);
        now.waiting.length = 0;
        return were;
    }

    public int refresh(int r) {
        if (!now.rows.has(r)) {
            return NO_SUCH;
        }
        history.keep(now);
        int was = now.rows.disturbed[r];
        now.rows.disturbed[r] = 0;
        return was;
    }

    public int tick(int n) {
        if (n < 1 || n > 200) {
            return BAD_NUMBER;
        }
        history.keep(now);
        for (int i = 0; i < n; i++) {
            now.passTick();
        }
        return now.waiting.length;
    }

    // ---- how it is

    public int row(int r, int what) {
        if (!now.rows.has(r)) {
            return NO_SUCH;
        }
        switch (what) {
            case 0: return now.rows.placeOf[r];
            case 1: return now.rows.disturbed[r];
            case 2: return now.rows.opened[r];
            case 3: return now.rows.openedEver[r];
            case 4: return now.rows.flipped >> r & 1;
            case 5: return now.guard.countOf(r, now.term);
            case 6: return now.queue.find(r);
            default: return NO_SUCH;
        }
    }

    public int at(int place) {
        return now.rows.has(place) ? now.rows.rowAt[place] : NO_SUCH;
    }

    public int data(int r, int what) {
        if (!now.rows.has(r)) {
            return NO_SUCH;
        }
        switch (what) {
            case 0: return now.rows.bits[r];
            case 1: return now.rows.good[r];
            case 2: return now.rows.weakBits[r];
            case 3: return Integer.bitCount(now.rows.bits[r] ^ now.rows.good[r]);
            case 4: return now.rows.lost >> r & 1;
            default: return NO_SUCH;
        }
    }

    public int slot(int i, int what) {
        if (i < 0 || i >= now.term[SIZE] || i >= MOST_SLOTS || what < 0 || what > 1) {
            return NO_SUCH;
        }
        switch (now.term[GUARD]) {
            case TABLE:
            case LATEST: return what == 0 ? now.guard.slotRow[i] : now.guard.slotCount[i];
            case SKETCH: return what == 0 ? now.guard.sketchOne[i] : now.guard.sketchTwo[i];
            default: return NO_SUCH;
        }
    }

    public int spill() {
        return now.term[GUARD] == TABLE ? now.guard.spilled : NONE;
    }

    public int queued(int i) {
        if (i < 0) {
            return BAD_NUMBER;
        }
        return i < now.queue.length ? now.queue.list[i] : NONE;
    }

    public int request(int i) {
        if (i < 0) {
            return BAD_NUMBER;
        }
        return i < now.waiting.length ? now.waiting.list[i] : NONE;
    }

    public int often(int k) {
        if (k < 1 || k > 999) {
            return BAD_NUMBER;
        }
        return now.rows.openedAtLeast(k);
    }

    public int missed() {
        int often = now.rows.openedAtLeast(now.term[STEP]);
        int found = 0;
        for (int r = 0; r < now.rows.n; r++) {
            boolean countsTooFew = now.guard.countOf(r, now.term) < now.rows.opened[r];
            if ((often >> r & 1) == 1 && countsTooFew) {
                found |= 1 << r;
            }
        }
        return found;
    }

    public int most(int what) {
        int r = now.rows.mostDisturbed();
        switch (what) {
            case 0: return r;
            case 1: return now.rows.disturbed[r];
            case 2: return Math.max(0, now.term[LIMIT] - now.rows.disturbed[r]);
            default: return NO_SUCH;
        }
    }

    public int spent(int sort) {
        return sort < 0 || sort >= SORTS ? NO_SUCH : now.spentOn[sort];
    }

    public int told(int what) {
        return what < 0 || what >= TALLIES ? NO_SUCH : now.tally[what];
    }

    // ---- on paper

    public int could() {
        return now.term[WINDOW] / Math.max(1, now.term[OPENS]);
    }

    public int least() {
        // SPILL comes to STEP when all slots did: by STEP times (SIZE and 1) REQUESTS, not by fewer.
        return could() / Math.max(1, now.term[STEP]);
    }

    public int hammer(int r, int n, int what) {
        if (!now.rows.has(r) || what < 0 || what > 1) {
            return NO_SUCH;
        }
        if (n < 1 || n > MOST_HAMMERED) {
            return BAD_NUMBER;
        }
        paper.take(now);
        paper.spellHammer(r, n, what);
        paper.run(n);
        return paper.peak();
    }

    public int breaks(int r, int what) {
        if (!now.rows.has(r) || what < 0 || what > 1) {
            return NO_SUCH;
        }
        paper.take(now);
        paper.spellHammer(r, MOST_HAMMERED, what);
        for (int n = 1; n <= MOST_HAMMERED; n++) {
            paper.run(n);
            if (paper.moreFlips() > 0) {
                return n;
            }
        }
        return NONE;
    }

    public int worst(int n) {
        if (n < 1 || n > LONGEST_ORDER) {
            return BAD_NUMBER;
        }
        if (now.rows.n > ROWS_TO_SEARCH) {
            return NOT_NOW;
        }
        paper.take(now);
        return paper.greatestPeak(n);
    }

    public int order(int n, int i) {
        if (n < 1 || n > LONGEST_ORDER || i < 0) {
            return BAD_NUMBER;
        }
        if (now.rows.n > ROWS_TO_SEARCH) {
            return NOT_NOW;
        }
        if (i >= n) {
            return NONE;
        }
        paper.take(now);
        paper.greatestPeak(n);
        return paper.worstOrder[i];
    }

    public int fewest() {
        if (now.rows.n > ROWS_TO_SEARCH) {
            return NOT_NOW;
        }
        paper.take(now);
        for (int n = 1; n <= LONGEST_ORDER; n++) {
            if (paper.someOrderFlips(n)) {
                return n;
            }
        }
        return NONE;
    }

    public int sure(int n) {
        if (n < 1 || n >= LONGEST_ORDER) {
            return BAD_NUMBER;
        }
        if (now.rows.n > ROWS_TO_SEARCH) {
            return NOT_NOW;
        }
        paper.take(now);
        for (int size = 1; size <= MOST_SLOTS; size++) {
            paper.base.setTermAndEmpty(SIZE, size);
            if (!paper.someOrderFlips(n)) {
                return size;
            }
        }
        return NONE;
    }

    public int choice(int seed, int n) {
        if (!canStorm(seed, n)) {
            return BAD_NUMBER;
        }
        int best = 0;
        int fewestFlips = 0;
        int fewestTicks = 0;
        for (int kind = 0; kind < GUARD_KINDS; kind++) {
            paper.take(now);
            paper.base.setTermAndEmpty(GUARD, kind);
            paper.runStorm(seed, n);
            int flips = paper.moreFlips();
            boolean isBetter = flips < fewestFlips || (flips == fewestFlips && paper.ticks < fewestTicks);
            if (kind == 0 || isBetter) {
                best = kind;
                fewestFlips = flips;
                fewestTicks = paper.ticks;
            }
        }
        return best;
    }

    public int attack(int n) {
        if (n < 0 || n > tape.length) {
            return BAD_NUMBER;
        }
        reader.read(tape.bytes, n, now.rows.n);
        if (reader.faultKind != 0) {
            return FAULT_BASE - reader.faultKind;
        }
        paper.take(now);
        for (int i = 0; i < reader.length; i++) {
            paper.list[i] = reader.found[i];
        }
        paper.run(reader.length);
        return paper.peak();
    }

    public int by(int guard, int n) {
        if (guard < 0 || guard >= GUARD_KINDS) {
            return NO_SUCH;
        }
        if (n < 1 || n > LONGEST_ORDER) {
            return BAD_NUMBER;
        }
        if (now.rows.n > ROWS_TO_SEARCH) {
            return NOT_NOW;
        }
        paper.take(now);
        paper.base.setTermAndEmpty(GUARD, guard);
        return paper.greatestPeak(n);
    }

    public int coarse(int n) {
        if (n < 1 || n > 30) {
            return BAD_NUMBER;
        }
        paper.take(now);
        for (int step = MOST_STEP; step >= 1; step--) {
            paper.base.setTermAndEmpty(STEP, step);
            if (!paper.someHammerFlips(n)) {
                return step;
            }
        }
        return NONE;
    }

    public int small(int n) {
        if (n < 1 || n > 30) {
            return BAD_NUMBER;
        }
        paper.take(now);
        for (int size = 1; size <= MOST_SLOTS; size++) {
            paper.base.setTermAndEmpty(SIZE, size);
            if (!paper.someHammerFlips(n)) {
                return size;
            }
        }
        return NONE;
    }

    public int done(int what) {
        if (what < 0 || what > 2) {
            return NO_SUCH;
        }
        paper.runOut(now);
        switch (what) {
            case 0: return paper.work.waiting.length > 0 ? NONE : paper.ticks;
            case 1: return paper.moreFlips();
            default: return paper.work.tally[TOLD_LONGEST];
        }
    }

    public int storm(int seed, int n, int what) {
        if (!canStorm(seed, n)) {
            return BAD_NUMBER;
        }
        if (what < 0 || what > 2) {
            return NO_SUCH;
        }
        paper.take(now);
        paper.runStorm(seed, n);
        switch (what) {
            case 0: return paper.peak();
            case 1: return paper.ticks;
            default: return paper.moreFires();
        }
    }

    private boolean canStorm(int seed, int n) {
        return seed >= 0 && seed < DRAW_STATES && n >= 1 && n <= MOST_WAITING;
    }

    // ---- back

    public int undo(int n) {
        if (n < 1 || n > history.length) {
            return BAD_NUMBER;
        }
        history.goBack(n, now);
        return history.length;
    }

    public int image(int i) {
        if (i < 0 || i >= IMAGES) {
            return NO_SUCH;
        }
        history.makeImage(i, now);
        return 0;
    }

    public int restore(int i) {
        if (i < 0 || i >= IMAGES) {
            return NO_SUCH;
        }
        if (!history.hasImage(i)) {
            return NO_IMAGE;
        }
        history.takeImage(i, now);
        return 0;
    }

    public int count(int what) {
        if (what >= 10 && what < 10 + TERMS) {
            return now.term[what - 10];
        }
        switch (what) {
            case 0: return now.rows.n;
            case 1: return now.time;
            case 2: return now.waiting.length;
            case 3: return now.queue.length;
            case 4: return now.owed;
            case 5: return now.toGo;
            case 6: return now.nextPlace;
            case 7: return history.length;
            case 8: return now.rows.flipped;
            case 9: return tape.length;
            case 27: return now.rows.lost;
            default: return NONE;
        }
    }

    /** The ROWS: where they lie, how they are DISTURBED, how often OPENED, and their DATA. */
    private static final class Rows {
        private int n;
        private int flipped;
        private int lost;
        private int peak;
        private final int[] placeOf = new int[MOST_ROWS];
        private final int[] rowAt = new int[MOST_ROWS];
        private final int[] disturbed = new int[MOST_ROWS];
        private final int[] opened = new int[MOST_ROWS];
        private final int[] openedEver = new int[MOST_ROWS];
        private final int[] bits = new int[MOST_ROWS];
        private final int[] good = new int[MOST_ROWS];
        private final int[] weakBits = new int[MOST_ROWS];

        private void reset(int rowCount) {
            n = rowCount;
            flipped = 0;
            lost = 0;
            Arrays.fill(disturbed, 0);
            Arrays.fill(opened, 0);
            Arrays.fill(openedEver, 0);
            Arrays.fill(bits, 0);
            Arrays.fill(good, 0);
            for (int r = 0; r < MOST_ROWS; r++) {
                placeOf[r] = r;
                rowAt[r] = r;
                weakBits[r] = 1 << r % 8;
            }
        }

        private void copyFrom(Rows other) {
            n = other.n;
            flipped = other.flipped;
            lost = other.lost;
            System.arraycopy(other.placeOf, 0, placeOf, 0, MOST_ROWS);
            System.arraycopy(other.rowAt, 0, rowAt, 0, MOST_ROWS);
            System.arraycopy(other.disturbed, 0, disturbed, 0, MOST_ROWS);
            System.arraycopy(other.opened, 0, opened, 0, MOST_ROWS);
            System.arraycopy(other.openedEver, 0, openedEver, 0, MOST_ROWS);
            System.arraycopy(other.bits, 0, bits, 0, MOST_ROWS);
            System.arraycopy(other.good, 0, good, 0, MOST_ROWS);
            System.arraycopy(other.weakBits, 0, weakBits, 0, MOST_ROWS);
        }

        /** ROWS and PLACES bear the same numbers, so this answers for both. */
        private boolean has(int r) {
            return r >= 0 && r < n && r < MOST_ROWS;
        }

        private int exchange(int a, int b) {
            int placeA = placeOf[a];
            int placeB = placeOf[b];
            placeOf[a] = placeB;
            placeOf[b] = placeA;
            rowAt[placeB] = a;
            rowAt[placeA] = b;
            return Math.abs(placeA - placeB);
        }

        private int write(int r, int v) {
            int was = bits[r];
            bits[r] = v;
            good[r] = v;
            lost &= ~(1 << r);
            return was;
        }

        private void markOpened(int r) {
            disturbed[r] = 0;
            opened[r]++;
            openedEver[r]++;
        }

        /** How many FLIPS come of it. */
        private int disturbAround(int r, int[] term) {
            int place = placeOf[r];
            int limit = term[LIMIT];
            int flips = disturbAt(place - 1, 2, limit) + disturbAt(place + 1, 2, limit);
            if (term[REACH] == 2) {
                flips += disturbAt(place - 2, 1, limit) + disturbAt(place + 2, 1, limit);
            }
            return flips;
        }

        private int disturbAt(int place, int more, int limit) {
            if (place < 0 || place >= n || place >= MOST_ROWS) {
                return 0;
            }
            int r = rowAt[place];
            int before = disturbed[r];
            disturbed[r] = before + more;
            peak = Math.max(peak, disturbed[r]);
            if (before >= limit || disturbed[r] < limit) {
                return 0;
            }
            flipped |= 1 << r;
            bits[r] ^= weakBits[r];
            return 1;
        }

        /** The tally that has one more by it, NONE if none has. */
        private int scrub(int r) {
            int wrongBits = Integer.bitCount(bits[r] ^ good[r]);
            if (wrongBits == 1) {
                bits[r] = good[r];
                return TOLD_FIXED;
            }
            if (wrongBits == 0 || (lost >> r & 1) == 1) {
                return NONE;
            }
            lost |= 1 << r;
            return TOLD_LOST;
        }

        private int openedAtLeast(int k) {
            int found = 0;
            for (int r = 0; r < n; r++) {
                if (opened[r] >= k) {
                    found |= 1 << r;
                }
            }
            return found;
        }

        private int mostDisturbed() {
            int best = 0;
            for (int r = 1; r < n; r++) {
                if (disturbed[r] > disturbed[best]) {
                    best = r;
                }
            }
            return best;
        }
    }

    /** What the GUARD counts, by whichever of its kinds; and the x that DRAWS come from. */
    private static final class Guard {
        private int spilled;
        private int sights;
        private int x;
        private final int[] slotRow = new int[MOST_SLOTS];
        private final int[] slotCount = new int[MOST_SLOTS];
        private final int[] slotSight = new int[MOST_SLOTS];
        private final int[] rowCounts = new int[MOST_ROWS];
        private final int[] sketchOne = new int[MOST_SLOTS];
        private final int[] sketchTwo = new int[MOST_SLOTS];

        private void empty() {
            spilled = 0;
            sights = 0;
            Arrays.fill(slotRow, NONE);
            Arrays.fill(slotCount, 0);
            Arrays.fill(slotSight, 0);
            Arrays.fill(rowCounts, 0);
            Arrays.fill(sketchOne, 0);
            Arrays.fill(sketchTwo, 0);
        }

        private void copyFrom(Guard other) {
            spilled = other.spilled;
            sights = other.sights;
            x = other.x;
            System.arraycopy(other.slotRow, 0, slotRow, 0, MOST_SLOTS);
            System.arraycopy(other.slotCount, 0, slotCount, 0, MOST_SLOTS);
            System.arraycopy(other.slotSight, 0, slotSight, 0, MOST_SLOTS);
            System.arraycopy(other.rowCounts, 0, rowCounts, 0, MOST_ROWS);
            System.arraycopy(other.sketchOne, 0, sketchOne, 0, MOST_SLOTS);
            System.arraycopy(other.sketchTwo, 0, sketchTwo, 0, MOST_SLOTS);
        }

        private int draw(int m) {
            int drawn = m > 0 ? x % m : 0;
            x = (421 * x + 1663) % DRAW_STATES;
            return drawn;
        }

        /** Whether it FIRES. */
        private boolean sees(int r, int[] term) {
            int slots = usedSlots(term);
            int own = indexOf(slotRow, slots, r);
            switch (term[GUARD]) {
                case TABLE: return isStep(countInTable(r, own < 0 ? indexOf(slotCount, slots, spilled) : own), term);
                case EACH: return isStep(countRow(r), term);
                case BY_CHANCE: return draw(100) < term[CHANCE];
                case SKETCH: return isStep(countInSketch(r, slots), term);
                case LATEST: return isStep(countInLatest(r, own < 0 ? slotSeenLongestAgo(slots) : own), term);
                default:
                    countRow(r);
                    return false;
            }
        }

        private int usedSlots(int[] term) {
            return Math.max(1, Math.min(MOST_SLOTS, term[SIZE]));
        }

        private boolean isStep(int rowCount, int[] term) {
            return rowCount > 0 && rowCount % Math.max(1, term[STEP]) == 0;
        }

        private int indexOf(int[] list, int slots, int sought) {
            for (int i = 0; i < slots; i++) {
                if (list[i] == sought) {
                    return i;
                }
            }
            return NONE;
        }

        private int countRow(int r) {
            rowCounts[r]++;
            return rowCounts[r];
        }

        /** The COUNT the ROW has then; without a slot it is spilled, and has none. */
        private int countInTable(int r, int i) {
            if (i < 0) {
                spilled++;
                return 0;
            }
            slotRow[i] = r;
            slotCount[i]++;
            return slotCount[i];
        }

        private int countInSketch(int r, int slots) {
            int one = r % slots;
            int two = (3 * r + 1) % slots;
            sketchOne[one]++;
            sketchTwo[two]++;
            return Math.min(sketchOne[one], sketchTwo[two]);
        }

        private int countInLatest(int r, int i) {
            if (slotRow[i] != r) {
                slotRow[i] = r;
                slotCount[i] = 0;
            }
            slotCount[i]++;
            sights++;
            slotSight[i] = sights;
            return slotCount[i];
        }

        /** A slot without a ROW has sight 0, so it comes ahead of all that were seen, the lowest first. */
        private int slotSeenLongestAgo(int slots) {
            int eldest = 0;
            for (int i = 1; i < slots; i++) {
                if (slotSight[i] < slotSight[eldest]) {
                    eldest = i;
                }
            }
            return eldest;
        }

        /** The COUNT of the ROW, 0 if it has none. */
        private int countOf(int r, int[] term) {
            int slots = usedSlots(term);
            switch (term[GUARD]) {
                case TABLE:
                case LATEST:
                    int own = indexOf(slotRow, slots, r);
                    return own < 0 ? 0 : slotCount[own];
                case EACH:
                case BLOCK: return rowCounts[r];
                case SKETCH: return Math.min(sketchOne[r % slots], sketchTwo[(3 * r + 1) % slots]);
                default: return 0;
            }
        }
    }

    /** REQUESTS that wait, and when each was told; room for a hammer() of 99. */
    private static final class Waiting {
        private int length;
        private final int[] list = new int[MOST_HAMMERED];
        private final int[] since = new int[MOST_HAMMERED];

        private void copyFrom(Waiting other) {
            length = other.length;
            System.arraycopy(other.list, 0, list, 0, length);
            System.arraycopy(other.since, 0, since, 0, length);
        }

        private void add(int r, int time) {
            if (length < MOST_HAMMERED) {
                list[length] = r;
                since[length] = time;
                length++;
            }
        }

        private void remove(int i) {
            length--;
            for (int k = i; k < length; k++) {
                list[k] = list[k + 1];
                since[k] = since[k + 1];
            }
        }
    }

    /** The QUEUE of ROWS to be REFRESHED; each is in it once at most. */
    private static final class Queue {
        private int length;
        private int members;
        private final int[] list = new int[MOST_ROWS];

        private void clear() {
            length = 0;
            members = 0;
        }

        private void copyFrom(Queue other) {
            length = other.length;
            members = other.members;
            System.arraycopy(other.list, 0, list, 0, length);
        }

        private int find(int r) {
            for (int i = 0; i < length; i++) {
                if (list[i] == r) {
                    return i;
                }
            }
            return NONE;
        }

        private void join(int r) {
            boolean isIn = (members >> r & 1) == 1;
            if (!isIn && length < MOST_ROWS) {
                list[length] = r;
                length++;
                members |= 1 << r;
            }
        }

        private int takeFirst() {
            int first = list[0];
            members &= ~(1 << first);
            length--;
            for (int i = 0; i < length; i++) {
                list[i] = list[i + 1];
            }
            return first;
        }
    }

    /** All that a call can change and undo() brings back: ROWS, TERMS, REQUESTS, and how TICKS go by. */
    private static final class Bank {
        private final int[] term = new int[TERMS];
        private final Rows rows = new Rows();
        private final Guard guard = new Guard();
        private final Waiting waiting = new Waiting();
        private final Queue queue = new Queue();
        private int time;
        private int owed;
        private int sort;
        private int toGo;
        private int nextPlace;
        private final int[] spentOn = new int[SORTS];
        private final int[] tally = new int[TALLIES];

        private Bank() {
            System.arraycopy(TERM_FIRST, 0, term, 0, TERMS);
        }

        private void startWith(int n) {
            rows.reset(n);
            guard.empty();
            guard.x = 17;
            waiting.length = 0;
            queue.clear();
            time = 0;
            owed = 0;
            sort = OF_NONE;
            toGo = 0;
            nextPlace = 0;
            Arrays.fill(spentOn, 0);
            Arrays.fill(tally, 0);
        }

        private void copyFrom(Bank other) {
            System.arraycopy(other.term, 0, term, 0, TERMS);
            rows.copyFrom(other.rows);
            guard.copyFrom(other.guard);
            waiting.copyFrom(other.waiting);
            queue.copyFrom(other.queue);
            time = other.time;
            owed = other.owed;
            sort = other.sort;
            toGo = other.toGo;
            nextPlace = other.nextPlace;
            System.arraycopy(other.spentOn, 0, spentOn, 0, SORTS);
            System.arraycopy(other.tally, 0, tally, 0, TALLIES);
        }

        private void setTerm(int what, int v) {
            term[what] = v;
            if (what == GUARD || what == SIZE) {
                guard.empty();
            }
        }

        private void setTermAndEmpty(int what, int v) {
            term[what] = v;
            guard.empty();
        }

        private boolean isBusy() {
            return waiting.length > 0 || queue.length > 0 || toGo > 0;
        }

        private void passTick() {
            comeRound();
            int first = findFirst();
            switch (toGo > 0 ? OF_NONE : sortThatBegins(first)) {
                case OF_REFRESHING:
                    beginRefreshing();
                    break;
                case OF_QUEUE:
                    beginNear();
                    break;
                case OF_REQUEST:
                    openRequest(first);
                    break;
                default:
                    break;
            }
            if (toGo > 0) {
                spentOn[sort]++;
                toGo--;
            } else {
                spentOn[OF_NONE]++;
            }
            time++;
        }

        private void comeRound() {
            if (time == 0) {
                return;
            }
            if (time % Math.max(1, term[EVERY]) == 0) {
                owed = Math.min(MOST_OWED, owed + 1);
            }
            if (time % Math.max(1, term[WINDOW]) == 0) {
                guard.empty();
                Arrays.fill(rows.opened, 0);
            }
        }

        /** Where the FIRST of those that wait is, NONE if there is none. */
        private int findFirst() {
            for (int i = 0; i < waiting.length; i++) {
                boolean blocked = term[GUARD] == BLOCK && guard.rowCounts[waiting.list[i]] >= term[STEP];
                if (!blocked) {
                    return i;
                }
            }
            return NONE;
        }

        private int sortThatBegins(int first) {
            boolean idle = first < 0;
            if (owed > 0 && (idle || owed > term[LATE])) {
                return OF_REFRESHING;
            }
            if (queue.length > 0 && (queue.length >= term[QUEUE] || idle || sort == OF_QUEUE)) {
                return OF_QUEUE;
            }
            return idle ? OF_NONE : OF_REQUEST;
        }

        private void beginRefreshing() {
            sort = OF_REFRESHING;
            toGo = term[TAKES];
            owed--;
            for (int i = 0; i < term[MANY]; i++) {
                refreshRow(rows.rowAt[nextPlace], term[SCRUB] >= 1);
                nextPlace = (nextPlace + 1) % Math.max(1, rows.n);
                tally[TOLD_ROUND]++;
            }
        }

        private void beginNear() {
            sort = OF_QUEUE;
            toGo = term[NEAR];
            int r = queue.takeFirst();
            refreshRow(r, term[SCRUB] == 2);
            tally[TOLD_NEAR]++;
            if (term[HALF] == 1) {
                tally[TOLD_FLIPS] += rows.disturbAround(r, term);
            }
        }

        private void refreshRow(int r, boolean scrubs) {
            if (scrubs) {
                int told = rows.scrub(r);
                if (told >= 0) {
                    tally[told]++;
                }
            }
            rows.disturbed[r] = 0;
        }

        private void openRequest(int i) {
            sort = OF_REQUEST;
            toGo = term[OPENS];
            int r = waiting.list[i];
            tallyWait(time - waiting.since[i]);
            waiting.remove(i);
            rows.markOpened(r);
            tally[TOLD_FLIPS] += rows.disturbAround(r, term);
            if (guard.sees(r, term)) {
                tally[TOLD_FIRED]++;
                queueNeighbours(r);
            }
        }

        private void tallyWait(int wait) {
            tally[TOLD_OPENED]++;
            tally[TOLD_WAITS] += wait;
            tally[TOLD_LONGEST] = Math.max(tally[TOLD_LONGEST], wait);
        }

        private void queueNeighbours(int r) {
            boolean byPlace = term[KNOWS] == 1;
            int middle = byPlace ? rows.placeOf[r] : r;
            for (int turn = 0; turn < 2 * term[REACH]; turn++) {
                int off = turn / 2 + 1;
                int spot = turn % 2 == 0 ? middle - off : middle + off;
                if (rows.has(spot)) {
                    queue.join(byPlace ? rows.rowAt[spot] : spot);
                }
            }
        }
    }

    /** What would come of REQUESTS: each run goes on from base, in rows that are used again. */
    private static final class Paper {
        private final Bank base = new Bank();
        private final Bank work = new Bank();
        private final int[] list = new int[MOST_HAMMERED];
        private final int[] worstOrder = new int[LONGEST_ORDER];
        private int ticks;

        private void take(Bank now) {
            base.copyFrom(now);
            base.waiting.length = 0;
        }

        private void startWork(Bank from) {
            work.copyFrom(from);
            work.rows.peak = work.rows.disturbed[work.rows.mostDisturbed()];
            work.tally[TOLD_LONGEST] = 0;
            ticks = 0;
        }

        /** The first n of the list, ON PAPER. */
        private void run(int n) {
            startWork(base);
            for (int i = 0; i < n && i < MOST_HAMMERED; i++) {
                work.waiting.add(list[i], work.time);
            }
            while (ticks < PAPER_TICKS && work.isBusy()) {
                work.passTick();
                ticks++;
            }
        }

        /** The REQUESTS that wait now, till all are OPENED. */
        private void runOut(Bank now) {
            take(now);
            startWork(now);
            while (ticks < PAPER_TICKS && work.waiting.length > 0) {
                work.passTick();
                ticks++;
            }
        }

        private void runStorm(int seed, int n) {
            base.guard.x = seed;
            for (int i = 0; i < n && i < MOST_HAMMERED; i++) {
                list[i] = base.guard.draw(base.rows.n);
            }
            run(n);
        }

        private int peak() {
            return work.rows.peak;
        }

        private int moreFlips() {
            return work.tally[TOLD_FLIPS] - base.tally[TOLD_FLIPS];
        }

        private int moreFires() {
            return work.tally[TOLD_FIRED] - base.tally[TOLD_FIRED];
        }

        private void spellHammer(int r, int n, int what) {
            int one = r;
            int two = r;
            if (what == 1) {
                int place = base.rows.placeOf[r];
                int below = place - 1;
                int above = place + 1;
                one = base.rows.rowAt[base.rows.has(below) ? below : above];
                two = base.rows.rowAt[base.rows.has(above) ? above : below];
            }
            for (int i = 0; i < n && i < MOST_HAMMERED; i++) {
                list[i] = i % 2 == 0 ? one : two;
            }
        }

        private boolean someHammerFlips(int n) {
            for (int r = 0; r < base.rows.n; r++) {
                for (int what = 0; what <= 1; what++) {
                    spellHammer(r, n, what);
                    run(n);
                    if (moreFlips() > 0) {
                        return true;
                    }
                }
            }
            return false;
        }

        private int ordersOf(int n) {
            int orders = 1;
            for (int i = 0; i < n; i++) {
                orders *= base.rows.n;
            }
            return orders;
        }

        /** The code-th row of n REQUESTS, in the order of their numbers. */
        private void spellOrder(int code, int n) {
            int rest = code;
            int radix = Math.max(1, base.rows.n);
            for (int i = n - 1; i >= 0; i--) {
                list[i] = rest % radix;
                rest /= radix;
            }
        }

        /** The first order that has the greatest PEAK is kept in worstOrder. */
        private int greatestPeak(int n) {
            int greatest = NONE;
            int orders = ordersOf(n);
            for (int code = 0; code < orders; code++) {
                spellOrder(code, n);
                run(n);
                if (peak() > greatest) {
                    greatest = peak();
                    System.arraycopy(list, 0, worstOrder, 0, n);
                }
            }
            return greatest;
        }

        private boolean someOrderFlips(int n) {
            int orders = ordersOf(n);
            for (int code = 0; code < orders; code++) {
                spellOrder(code, n);
                run(n);
                if (moreFlips() > 0) {
                    return true;
                }
            }
            return false;
        }
    }

    /** What was ahead of the latest calls, in a ring, and the IMAGES. */
    private static final class History {
        private final Bank[] ring = new Bank[MOST_UNDO];
        private final Bank[] images = new Bank[IMAGES];
        private int head;
        private int length;
        private int made;

        private History() {
            for (int i = 0; i < MOST_UNDO; i++) {
                ring[i] = new Bank();
            }
            for (int i = 0; i < IMAGES; i++) {
                images[i] = new Bank();
            }
        }

        private void keep(Bank now) {
            ring[head].copyFrom(now);
            head = (head + 1) % MOST_UNDO;
            length = Math.min(MOST_UNDO, length + 1);
        }

        private void goBack(int n, Bank now) {
            head = (head + MOST_UNDO - n) % MOST_UNDO;
            length -= n;
            now.copyFrom(ring[head]);
        }

        private void makeImage(int i, Bank now) {
            images[i].copyFrom(now);
            made |= 1 << i;
        }

        private boolean hasImage(int i) {
            return (made >> i & 1) == 1;
        }

        /** Nothing can be UNDONE behind that. */
        private void takeImage(int i, Bank now) {
            now.copyFrom(images[i]);
            length = 0;
        }
    }

    /** THE TAPE. */
    private static final class Tape {
        private int length;
        private final int[] bytes = new int[TAPE_BYTES];

        private boolean hasRoom() {
            return length + 20 <= TAPE_BYTES;
        }

        /** The four bytes of an int, the highest first. */
        private void append(int four) {
            for (int shift = 24; shift >= 0 && length < TAPE_BYTES; shift -= 8) {
                bytes[length] = four >>> shift & 255;
                length++;
            }
        }
    }

    /** Reads a PATTERN: the ROWS of its REQUESTS, or its FAULT; it may end or close just behind a whole PART. */
    private static final class Reader {
        private final int[] found = new int[MOST_WAITING];
        private final int[] openStart = new int[MOST_OPEN];
        private final int[] openTimes = new int[MOST_OPEN];
        private int length;
        private int faultKind;
        private int faultPlace;
        private int open;
        private int digits;
        private int digitsStart;
        private int number;
        private boolean afterPart;
        private boolean tooMany;

        private void read(int[] bytes, int n, int rowCount) {
            length = 0;
            faultKind = 0;
            faultPlace = NONE;
            open = 0;
            forgetNumber();
            afterPart = false;
            tooMany = false;
            for (int i = 0; i < n && i < TAPE_BYTES && faultKind == 0; i++) {
                if (bytes[i] >= '0' && bytes[i] <= '9') {
                    readDigit(bytes[i] - '0', i);
                } else {
                    readSign(bytes[i], i, rowCount);
                }
            }
            if (faultKind == 0) {
                readEnd(n);
            }
        }

        private void fail(int kind, int place) {
            faultKind = kind;
            faultPlace = place;
        }

        private void forgetNumber() {
            digits = 0;
            number = 0;
        }

        private void readDigit(int digit, int place) {
            if (digits == 0) {
                digitsStart = place;
            }
            digits++;
            number = Math.min(1000, number * 10 + digit);
            afterPart = false;
        }

        private boolean isBadNumber() {
            return digits > 0 && (digits > 2 || number < 1 || number > MOST_WAITING);
        }

        private void readSign(int sign, int place, int rowCount) {
            if (isBadNumber()) {
                fail(BAD_COUNT, digitsStart);
            } else if (sign >= 'a' && sign <= 'p') {
                readLetter(sign - 'a', place, rowCount);
            } else if (sign == '(') {
                openGroup(place);
            } else if (sign == ')') {
                closeGroup(place);
            } else {
                fail(CANNOT_STAND, place);
            }
        }

        private void readEnd(int place) {
            if (isBadNumber()) {
                fail(BAD_COUNT, digitsStart);
            } else if (open > 0 || !afterPart) {
                fail(CANNOT_STAND, place);
            } else if (tooMany) {
                fail(TOO_MANY, NONE);
            }
        }

        private void readLetter(int r, int place, int rowCount) {
            if (r >= rowCount) {
                fail(NO_ROW, place);
                return;
            }
            int repeats = Math.max(1, number);
            for (int i = 0; i < repeats; i++) {
                put(r);
            }
            forgetNumber();
            afterPart = true;
        }

        private void openGroup(int place) {
            if (open >= MOST_OPEN) {
                fail(TOO_DEEP, place);
                return;
            }
            openStart[open] = length;
            openTimes[open] = Math.max(1, number);
            open++;
            forgetNumber();
            afterPart = false;
        }

        private void closeGroup(int place) {
            if (open == 0 || !afterPart) {
                fail(CANNOT_STAND, place);
                return;
            }
            open--;
            int start = openStart[open];
            int end = start + (length - start) * (openTimes[open] - 1);
            for (int i = start; i < end && i < length && !tooMany; i++) {
                put(found[i]);
            }
        }

        private void put(int r) {
            if (length < MOST_WAITING) {
                found[length] = r;
                length++;
            } else {
                tooMany = true;
            }
        }
    }
}
