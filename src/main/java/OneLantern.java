/** A row of walkers on a dark path of roots with one lantern among them; the document is DOC.md. */
public final class OneLantern {
    private static final int BEYOND = -1000000001;
    private static final int FULL = -1000000002;
    private static final int KIND = -1000000003;
    private static final int NONE = -1000000004;
    private static final int STATE = -1000000005;
    private static final int MISSING = -1000000006;
    private static final int SIZE = -1000000007;
    private static final int FINDINGS = 7;

    private static final int WALKER = 0;
    private static final int TALL = 1;
    private static final int CHILD = 2;
    private static final int GUIDE = 3;
    private static final int PORTER = 4;
    private static final int SLEEPY = 5;
    private static final int KINDS = 6;
    private static final int[] KIND_ABOVE = {-1, WALKER, WALKER, WALKER, TALL, CHILD};

    private static final int NOBODY = -1;
    private static final int MOST_WALKERS = 8;
    private static final int PACES = 30;
    private static final int ALL_PACES = 1073741823;
    private static final int ROOTS_AT_FIRST = 1 << 3 | 1 << 10 | 1 << 17 | 1 << 24;
    private static final int MOST_BRIGHT = 9;
    private static final int BRIGHT_AT_FIRST = 3;
    private static final int MOST_STUMBLED = 9999;
    private static final int ABOVE_ALL_STUMBLED = MOST_WALKERS * MOST_STUMBLED + 1;
    private static final int MOST_NERVE = 99;
    private static final int NERVE_AT_FIRST = 50;
    private static final int LAST_STEP = 99999;

    private static final int MOST_STEPS = 200;
    private static final int FAR_AHEAD = 300;
    private static final int BEST_AHEAD = 100;
    private static final int CLEAR_AHEAD = 60;
    private static final int MOST_ASKED = 99999;

    private static final int MOST_BYTES = 120;
    private static final int SHEETS = 4;
    private static final int MOST_NUMBERS = 40;

    private final Row row = new Row();
    private final Row ahead = new Row();
    private final Row kept = new Row();
    private boolean isKept;
    private final NightReader reader = new NightReader();
    private final Sheet[] sheets = new Sheet[SHEETS];
    private final int[] told = new int[FINDINGS];

    public OneLantern() {
        for (int s = 0; s < SHEETS; s++) {
            sheets[s] = new Sheet();
        }
    }

    // ---- the path

    public int roots(int set) {
        if (!within(set, 0, ALL_PACES)) {
            return tell(BEYOND);
        }
        int was = row.roots;
        row.roots = set;
        return was;
    }

    public int lantern(int place) {
        if (place != NOBODY && !row.has(place)) {
            return tell(BEYOND);
        }
        int was = row.lantern;
        row.lantern = place;
        return was;
    }

    public int bright(int v) {
        if (!within(v, 0, MOST_BRIGHT)) {
            return tell(BEYOND);
        }
        int was = row.bright;
        row.bright = v;
        return was;
    }

    public int now(int what) {
        switch (what) {
            case 0: return row.step;
            case 1: return row.roots;
            case 2: return row.lantern;
            case 3: return row.bright;
            case 4: return row.litSet();
            case 5: return row.atRootSet();
            case 6: return row.heardSet();
            case 7: return row.allStumbled();
            default: return tell(BEYOND);
        }
    }

    // ---- walkers

    public int walker(int kind) {
        if (!isKind(kind)) {
            return tell(BEYOND);
        }
        if (row.isFull()) {
            return tell(FULL);
        }
        row.add(kind);
        return row.count - 1;
    }

    public int of(int place, int what) {
        if (!row.has(place)) {
            return tell(BEYOND);
        }
        switch (what) {
            case 0: return row.kinds[place];
            case 1: return row.paceOf(place);
            case 2: return row.heard[place];
            case 3: return row.stumbled[place];
            case 4: return row.nerves[place];
            case 5: return shadeOf(row.kinds[place]);
            case 6: return isIn(row.seeingSet(), place) ? 1 : 0;
            case 7: return row.heeds(place) ? 1 : 0;
            default: return tell(BEYOND);
        }
    }

    public int set(int place, int what, int v) {
        if (!row.has(place)) {
            return tell(BEYOND);
        }
        switch (what) {
            case 2: return put(row.heard, place, v, 1);
            case 3: return put(row.stumbled, place, v, MOST_STUMBLED);
            case 4: return put(row.nerves, place, v, MOST_NERVE);
            default: return tell(BEYOND);
        }
    }

    public int swap(int place, int other) {
        if (!row.has(place) || !row.has(other) || place == other) {
            return tell(BEYOND);
        }
        row.exchange(place, other);
        return 1;
    }

    public int turn(int place, int kind) {
        if (!row.has(place) || !isKind(kind)) {
            return tell(BEYOND);
        }
        int was = row.kinds[place];
        row.kinds[place] = kind;
        return was;
    }

    public int as(int place, int kind) {
        if (!row.has(place) || !isKind(kind)) {
            return tell(BEYOND);
        }
        if (!isUnder(row.kinds[place], kind)) {
            return tell(KIND);
        }
        return row.nerves[place];
    }

    // ---- steps

    public int steps(int n) {
        if (!within(n, 1, MOST_STEPS)) {
            return tell(BEYOND);
        }
        if (row.step > LAST_STEP - n) {
            return tell(STATE);
        }
        row.goSteps(n);
        return row.allStumbled();
    }

    public int on(int place, int n, int what) {
        if (!row.has(place) || !within(n, 0, FAR_AHEAD) || !within(what, 0, 2)) {
            return tell(BEYOND);
        }
        lookAhead();
        ahead.goSteps(n);
        switch (what) {
            case 0: return ahead.heard[place];
            case 1: return ahead.stumbled[place];
            default: return ahead.nerves[place];
        }
    }

    public int falls(int n) {
        if (!within(n, 0, FAR_AHEAD)) {
            return tell(BEYOND);
        }
        lookAhead();
        return stumbledIn(n);
    }

    public int trips(int place) {
        if (!row.has(place)) {
            return tell(BEYOND);
        }
        lookAhead();
        for (int n = 1; n <= FAR_AHEAD; n++) {
            ahead.goStep();
            // STUMBLED is held at its most, so the fall itself is asked for
            if (isIn(ahead.fallen, place)) {
                return n;
            }
        }
        return tell(NONE);
    }

    public int hears(int place) {
        if (!row.has(place)) {
            return tell(BEYOND);
        }
        lookAhead();
        for (int n = 0; n <= FAR_AHEAD; n++) {
            if (ahead.heard[place] == 1) {
                return n;
            }
            ahead.goStep();
        }
        return tell(NONE);
    }

    // ---- what is best

    public int carry(int n) {
        if (!within(n, 1, BEST_AHEAD)) {
            return tell(BEYOND);
        }
        if (row.count == 0) {
            return tell(NONE);
        }
        int best = 0;
        int fewest = ABOVE_ALL_STUMBLED;
        for (int place = 0; place < row.count; place++) {
            lookAhead();
            ahead.lantern = place;
            int all = stumbledIn(n);
            if (all < fewest) {
                fewest = all;
                best = place;
            }
        }
        return best;
    }

    public int order(int n) {
        if (!within(n, 1, BEST_AHEAD)) {
            return tell(BEYOND);
        }
        lookAhead();
        int fewest = stumbledIn(n);
        int best = -1;
        for (int place = 0; place < row.count; place++) {
            for (int other = place + 1; other < row.count; other++) {
                lookAhead();
                ahead.exchange(place, other);
                int all = stumbledIn(n);
                if (all < fewest) {
                    fewest = all;
                    best = 10 * place + other;
                }
            }
        }
        return best < 0 ? tell(NONE) : best;
    }

    public int kind(int place, int n) {
        if (!row.has(place) || !within(n, 1, BEST_AHEAD)) {
            return tell(BEYOND);
        }
        int best = 0;
        int fewest = ABOVE_ALL_STUMBLED;
        for (int kind = 0; kind < KINDS; kind++) {
            lookAhead();
            ahead.kinds[place] = kind;
            ahead.goSteps(n);
            if (ahead.stumbled[place] < fewest) {
                fewest = ahead.stumbled[place];
                best = kind;
            }
        }
        return best;
    }

    public int least(int n, int v) {
        if (!within(n, 1, BEST_AHEAD) || !within(v, 0, MOST_ASKED)) {
            return tell(BEYOND);
        }
        for (int bright = 0; bright <= MOST_BRIGHT; bright++) {
            lookAhead();
            ahead.bright = bright;
            if (stumbledIn(n) <= v) {
                return bright;
            }
        }
        return tell(NONE);
    }

    public int clear(int n) {
        if (!within(n, 1, CLEAR_AHEAD)) {
            return tell(BEYOND);
        }
        int best = -1;
        int fewest = ABOVE_ALL_STUMBLED;
        for (int pace = 0; pace < PACES; pace++) {
            if (isIn(row.roots, pace)) {
                lookAhead();
                ahead.setRoot(pace, false);
                int all = stumbledIn(n);
                if (all < fewest) {
                    fewest = all;
                    best = pace;
                }
            }
        }
        return best < 0 ? tell(NONE) : best;
    }

    public int nerve(int place, int n) {
        if (!row.has(place) || !within(n, 1, BEST_AHEAD)) {
            return tell(BEYOND);
        }
        for (int nerve = 0; nerve <= MOST_NERVE; nerve++) {
            lookAhead();
            ahead.nerves[place] = nerve;
            if (stumblesNoMore(place, n)) {
                return nerve;
            }
        }
        return tell(NONE);
    }

    public int worst(int n) {
        if (!within(n, 0, FAR_AHEAD)) {
            return tell(BEYOND);
        }
        if (row.count == 0) {
            return tell(NONE);
        }
        lookAhead();
        ahead.goSteps(n);
        int most = 0;
        for (int place = 1; place < ahead.count; place++) {
            if (ahead.stumbled[place] > ahead.stumbled[most]) {
                most = place;
            }
        }
        return most;
    }

    // ---- the text

    public int feed(int bytes, int n) {
        if (!within(n, 1, 4)) {
            return tell(BEYOND);
        }
        if (reader.tape.length > MOST_BYTES - n) {
            return tell(FULL);
        }
        for (int i = n - 1; i >= 0; i--) {
            reader.tape.add((byte) (bytes >> 8 * i));
        }
        return reader.tape.length;
    }

    public int wipe() {
        int had = reader.tape.length;
        reader.tape.length = 0;
        return had;
    }

    public int night() {
        // the items come to a draft first: with a fault none of them may stand
        lookAhead();
        int items = reader.tellTo(ahead);
        if (items >= 0) {
            row.takeFrom(ahead);
        }
        reader.tape.length = 0;
        return items;
    }

    // ---- sheets

    public int sheet(int s, int bits, int n) {
        if (!isSheet(s) || !isWidth(bits)) {
            return tell(BEYOND);
        }
        if (n < 0) {
            return tell(SIZE);
        }
        if (n > MOST_NUMBERS) {
            return tell(BEYOND);
        }
        sheets[s].renew(bits, n);
        return sheets[s].size;
    }

    public long write(int s, int i, long v) {
        if (!isSheet(s)) {
            return tell(BEYOND);
        }
        Sheet sheet = sheets[s];
        if (sheet.isMissing()) {
            return tell(MISSING);
        }
        if (!within(i, 0, sheet.size - 1)) {
            return tell(BEYOND);
        }
        long was = sheet.numbers[i];
        sheet.put(i, v);
        return was;
    }

    public int copy(int s, int from, int t, int to, int n) {
        if (!isSheet(s) || !isSheet(t)) {
            return tell(BEYOND);
        }
        Sheet source = sheets[s];
        Sheet target = sheets[t];
        if (source.isMissing() || target.isMissing()) {
            return tell(MISSING);
        }
        if (source.bits != target.bits) {
            return tell(KIND);
        }
        if (!source.spans(from, n) || !target.spans(to, n)) {
            return tell(BEYOND);
        }
        System.arraycopy(source.numbers, from, target.numbers, to, n);
        return n;
    }

    public int lays(int s) {
        if (!isSheet(s)) {
            return tell(BEYOND);
        }
        Sheet sheet = sheets[s];
        if (sheet.isMissing()) {
            return tell(MISSING);
        }
        int came = 0;
        int most = Math.min(sheet.size, row.count);
        for (int place = 0; place < most; place++) {
            long nerve = sheet.numbers[place];
            if (nerve >= 0 && nerve <= MOST_NERVE) {
                row.nerves[place] = (int) nerve;
                came++;
            }
        }
        return came;
    }

    public int book(int s, int place) {
        int finding = findingOfBook(s, place);
        if (finding != 0) {
            return tell(finding);
        }
        Sheet sheet = sheets[s];
        lookAhead();
        for (int i = 0; i < sheet.size; i++) {
            sheet.put(i, ahead.stumbled[place]);
            ahead.goStep();
        }
        return sheet.size;
    }

    public int read(int s, int place) {
        int finding = findingOfBook(s, place);
        if (finding != 0) {
            return tell(finding);
        }
        int pairs = 0;
        for (int kind = 0; kind < KINDS; kind++) {
            for (int bright = 0; bright <= MOST_BRIGHT; bright++) {
                lookAhead();
                ahead.kinds[place] = kind;
                ahead.bright = bright;
                if (stumblesJustAs(sheets[s], place)) {
                    pairs++;
                }
            }
        }
        return pairs;
    }

    // ---- images

    public int image() {
        kept.takeFrom(row);
        isKept = true;
        return 1;
    }

    public int undo() {
        if (!isKept) {
            return tell(NONE);
        }
        row.takeFrom(kept);
        return row.count;
    }

    public int tear() {
        int was = isKept ? 1 : 0;
        isKept = false;
        return was;
    }

    public int count(int what) {
        switch (what) {
            case 0: return row.count;
            case 1: return reader.tape.length;
            case 2: return Integer.bitCount(row.roots);
            case 3: return row.allNerve();
            default: return tell(BEYOND);
        }
    }

    public int status(int which) {
        if (!within(which, -1, FINDINGS - 1)) {
            return tell(BEYOND);
        }
        if (which >= 0) {
            return told[which];
        }
        int all = 0;
        for (int i = 0; i < FINDINGS; i++) {
            all += told[i];
        }
        return all;
    }

    // ---- help for the acts

    private int tell(int finding) {
        int which = BEYOND - finding;
        if (within(which, 0, FINDINGS - 1)) {
            told[which]++;
        }
        return finding;
    }

    private int put(int[] values, int place, int v, int most) {
        if (!within(v, 0, most) || !within(place, 0, values.length - 1)) {
            return tell(BEYOND);
        }
        int was = values[place];
        values[place] = v;
        return was;
    }

    private void lookAhead() {
        ahead.takeFrom(row);
    }

    private int stumbledIn(int n) {
        ahead.goSteps(n);
        return ahead.allStumbled();
    }

    /** What book and read find amiss, 0 if nothing. */
    private int findingOfBook(int s, int place) {
        if (!isSheet(s)) {
            return BEYOND;
        }
        if (sheets[s].isMissing()) {
            return MISSING;
        }
        return row.has(place) ? 0 : BEYOND;
    }

    private boolean stumblesNoMore(int place, int n) {
        for (int i = 0; i < n; i++) {
            ahead.goStep();
            if (ahead.stumbled[place] > row.stumbled[place]) {
                return false;
            }
        }
        return true;
    }

    private boolean stumblesJustAs(Sheet sheet, int place) {
        for (int i = 0; i < sheet.size; i++) {
            if (sheet.numbers[i] != ahead.stumbled[place]) {
                return false;
            }
            ahead.goStep();
        }
        return true;
    }

    private static boolean within(int v, int least, int most) {
        return v >= least && v <= most;
    }

    private static boolean isIn(int set, int i) {
        return (set >> i & 1) == 1;
    }

    private static boolean isKind(int kind) {
        return within(kind, 0, KINDS - 1);
    }

    private static boolean isSheet(int s) {
        return within(s, 0, SHEETS - 1);
    }

    private static boolean isWidth(int bits) {
        return bits == 0 || bits == 8 || bits == 16 || bits == 64;
    }

    private static boolean isUnder(int kind, int above) {
        int k = kind;
        for (int level = 0; level < KINDS && isKind(k); level++) {
            if (k == above) {
                return true;
            }
            k = KIND_ABOVE[k];
        }
        return false;
    }

    private static int shadeOf(int kind) {
        switch (kind) {
            case TALL: return 1;
            case PORTER: return 2;
            default: return 0;
        }
    }

    /** All that section 1 of the document tells. */
    private static final class Row {
        private int step;
        private int roots = ROOTS_AT_FIRST;
        private int lantern;
        private int bright = BRIGHT_AT_FIRST;
        private int count;
        private final int[] kinds = new int[MOST_WALKERS];
        private final int[] heard = new int[MOST_WALKERS];
        private final int[] stumbled = new int[MOST_WALKERS];
        private final int[] nerves = new int[MOST_WALKERS];
        /** The places of those that stumbled in the step that went last; each step makes it anew. */
        private int fallen;

        private void takeFrom(Row other) {
            step = other.step;
            roots = other.roots;
            lantern = other.lantern;
            bright = other.bright;
            count = other.count;
            for (int place = 0; place < MOST_WALKERS; place++) {
                kinds[place] = other.kinds[place];
                heard[place] = other.heard[place];
                stumbled[place] = other.stumbled[place];
                nerves[place] = other.nerves[place];
            }
        }

        private boolean has(int place) {
            return place >= 0 && place < count;
        }

        private boolean isFull() {
            return count >= MOST_WALKERS;
        }

        private void add(int kind) {
            if (isFull()) {
                return;
            }
            kinds[count] = kind;
            heard[count] = 0;
            stumbled[count] = 0;
            nerves[count] = NERVE_AT_FIRST;
            count++;
        }

        private void exchange(int place, int other) {
            if (!has(place) || !has(other)) {
                return;
            }
            exchangeIn(kinds, place, other);
            exchangeIn(heard, place, other);
            exchangeIn(stumbled, place, other);
            exchangeIn(nerves, place, other);
        }

        private static void exchangeIn(int[] values, int place, int other) {
            int v = values[place];
            values[place] = values[other];
            values[other] = v;
        }

        private void setRoot(int pace, boolean there) {
            if (there) {
                roots |= 1 << pace;
            } else {
                roots &= ~(1 << pace);
            }
        }

        private int paceOf(int place) {
            return Math.floorMod(step - place, PACES);
        }

        /** The places in LIGHT. */
        private int litSet() {
            if (!has(lantern)) {
                return 0;
            }
            int set = 0;
            for (int place = 0; place <= lantern; place++) {
                if (lantern - place <= bright) {
                    set |= 1 << place;
                }
            }
            int reach = bright;
            for (int place = lantern + 1; place < count; place++) {
                if (place - lantern <= reach) {
                    set |= 1 << place;
                }
                reach -= shadeOf(kinds[place]);
            }
            return set;
        }

        private int atRootSet() {
            int set = 0;
            for (int place = 0; place < count; place++) {
                if (isIn(roots, paceOf(place))) {
                    set |= 1 << place;
                }
            }
            return set;
        }

        private int heardSet() {
            int set = 0;
            for (int place = 0; place < count; place++) {
                set |= heard[place] << place;
            }
            return set;
        }

        private int allStumbled() {
            int all = 0;
            for (int place = 0; place < count; place++) {
                all += stumbled[place];
            }
            return all;
        }

        private int allNerve() {
            int all = 0;
            for (int place = 0; place < count; place++) {
                all += nerves[place];
            }
            return all;
        }

        /** The places of those that SEE a root where they are, whether one is there or not. */
        private int seeingSet() {
            int lit = litSet();
            int set = 0;
            for (int place = 0; place < count; place++) {
                if (sees(place, isIn(lit, place))) {
                    set |= 1 << place;
                }
            }
            return set;
        }

        private boolean sees(int place, boolean inLight) {
            boolean asTall = inLight && Math.abs(place - lantern) <= 2;
            switch (kinds[place]) {
                case TALL: return asTall;
                case GUIDE: return true;
                case PORTER: return asTall && lantern != place;
                case SLEEPY: return inLight && step % 3 != 2;
                default: return inLight;
            }
        }

        private boolean heeds(int place) {
            switch (kinds[place]) {
                case CHILD: return true;
                case SLEEPY: return false;
                default: return nerves[place] >= 30;
            }
        }

        /** Whether it says the word on, seen being the places of those that see the root they are at. */
        private boolean says(int place, int seen) {
            boolean fell = isIn(fallen, place);
            boolean asWalker = fell || isIn(seen, place);
            boolean asTall = asWalker || heard[place] == 1;
            switch (kinds[place]) {
                case TALL: return asTall;
                case CHILD: return fell;
                case PORTER: return asTall && nerves[place] >= 20;
                case SLEEPY: return false;
                default: return asWalker;
            }
        }

        private boolean isWarned(int place) {
            return heard[place] == 1 && heeds(place);
        }

        private void goSteps(int n) {
            for (int i = 0; i < n; i++) {
                goStep();
            }
        }

        private void goStep() {
            step++;
            int atRoot = atRootSet();
            int seeing = seeingSet();
            walk(atRoot & ~seeing);
            sayOn(atRoot & seeing);
        }

        private void walk(int unseen) {
            fallen = 0;
            for (int place = 0; place < count; place++) {
                if (isIn(unseen, place) && !isWarned(place)) {
                    fallen |= 1 << place;
                    stumbled[place] = Math.min(stumbled[place] + 1, MOST_STUMBLED);
                    nerves[place] = Math.max(nerves[place] - 10, 0);
                } else {
                    nerves[place] = Math.min(nerves[place] + 1, MOST_NERVE);
                }
            }
        }

        private void sayOn(int seen) {
            // all are asked before anyone hears, since what one says hangs on what it heard before
            int said = 0;
            for (int place = 0; place < count; place++) {
                if (says(place, seen)) {
                    said |= 1 << place;
                }
            }
            for (int place = 0; place < count; place++) {
                heard[place] = isIn(said << 1, place) ? 1 : 0;
            }
        }
    }

    /** A row of numbers; missing with no bits. */
    private static final class Sheet {
        private int bits;
        private int size;
        private final long[] numbers = new long[MOST_NUMBERS];

        private boolean isMissing() {
            return bits == 0;
        }

        private void renew(int newBits, int newSize) {
            bits = newBits;
            size = newBits == 0 ? 0 : newSize;
            for (int i = 0; i < MOST_NUMBERS; i++) {
                numbers[i] = 0;
            }
        }

        private boolean spans(int from, int n) {
            return from >= 0 && n >= 0 && n <= size && from <= size - n;
        }

        private void put(int i, long v) {
            if (i >= 0 && i < size) {
                numbers[i] = cut(v);
            }
        }

        private long cut(long v) {
            switch (bits) {
                case 8: return (byte) v;
                case 16: return (short) v;
                default: return v;
            }
        }
    }

    private static final class Tape {
        private final byte[] bytes = new byte[MOST_BYTES];
        private int length;

        private void add(byte b) {
            if (length < MOST_BYTES) {
                bytes[length] = b;
                length++;
            }
        }

        /** The byte at a place; 0, which begins no token, behind the last one. */
        private int at(int i) {
            return i >= 0 && i < length ? bytes[i] : 0;
        }
    }

    /** Has the tape, and reads the text of a night off it, token by token. */
    private static final class NightReader {
        /** The tokens 0 to 5 are the names of the kinds. */
        private static final int NERVE = 6;
        private static final int ROOT = 7;
        private static final int CLEAR = 8;
        private static final int LANTERN = 9;
        private static final int BRIGHT = 10;
        private static final int SWAP = 11;
        private static final int WORDS = 12;
        private static final int NUMBER = 12;
        private static final int SIGN = 13;
        private static final int END = 14;
        private static final int OTHER = 15;
        private static final int ABOVE_NUMBERS = 1000;

        private final Tape tape = new Tape();
        private int token;
        private int start;
        private int behind;
        private int number;

        /** How many items came to the row, or -1 less the place of the fault. */
        private int tellTo(Row row) {
            behind = 0;
            for (int items = 1; items <= MOST_BYTES; items++) {
                next();
                if (!item(row)) {
                    return -1 - start;
                }
                if (token == END) {
                    return items;
                }
                if (token != SIGN) {
                    return -1 - start;
                }
            }
            return -1 - start;
        }

        /** Leaves the token behind the item, or, answering false, the one that can't stand there. */
        private boolean item(Row row) {
            if (isKind(token)) {
                return kindItem(row);
            }
            switch (token) {
                case ROOT: return rootItem(row, true);
                case CLEAR: return rootItem(row, false);
                case LANTERN: return lanternItem(row);
                case BRIGHT: return brightItem(row);
                case SWAP: return swapItem(row);
                default: return false;
            }
        }

        private boolean kindItem(Row row) {
            if (row.isFull()) {
                return false;
            }
            row.add(token);
            next();
            if (token != NERVE) {
                return true;
            }
            if (!nextIsNumber(MOST_NERVE)) {
                return false;
            }
            row.nerves[row.count - 1] = number;
            next();
            return true;
        }

        private boolean rootItem(Row row, boolean there) {
            if (!nextIsNumber(PACES - 1)) {
                return false;
            }
            row.setRoot(number, there);
            next();
            return true;
        }

        private boolean lanternItem(Row row) {
            if (!nextIsNumber(row.count - 1)) {
                return false;
            }
            row.lantern = number;
            next();
            return true;
        }

        private boolean brightItem(Row row) {
            if (!nextIsNumber(MOST_BRIGHT)) {
                return false;
            }
            row.bright = number;
            next();
            return true;
        }

        private boolean swapItem(Row row) {
            if (!nextIsNumber(row.count - 1)) {
                return false;
            }
            int place = number;
            if (!nextIsNumber(row.count - 1) || number == place) {
                return false;
            }
            row.exchange(place, number);
            next();
            return true;
        }

        private boolean nextIsNumber(int most) {
            start = behindBlanks();
            if (!isDigit(tape.at(start))) {
                return false;
            }
            takeNumber();
            return number <= most;
        }

        private void next() {
            start = behindBlanks();
            behind = start + 1;
            int first = tape.at(start);
            if (start >= tape.length) {
                token = END;
            } else if (first == ';') {
                token = SIGN;
            } else if (isDigit(first)) {
                takeNumber();
            } else if (isLetter(first)) {
                takeWord();
            } else {
                token = OTHER;
            }
        }

        private int behindBlanks() {
            int i = behind;
            while (i < tape.length && tape.at(i) == ' ') {
                i++;
            }
            // a token may have ended the tape
            return Math.min(i, tape.length);
        }

        private void takeNumber() {
            token = NUMBER;
            number = 0;
            int i = start;
            while (i < tape.length && isDigit(tape.at(i))) {
                // held there, so that no row of digits runs over
                number = Math.min(10 * number + tape.at(i) - '0', ABOVE_NUMBERS);
                i++;
            }
            behind = i;
        }

        private void takeWord() {
            int i = start;
            while (i < tape.length && isLetter(tape.at(i))) {
                i++;
            }
            behind = i;
            token = OTHER;
            for (int word = 0; word < WORDS; word++) {
                if (isWord(textOf(word))) {
                    token = word;
                }
            }
        }

        private boolean isWord(String text) {
            if (text.length() != behind - start) {
                return false;
            }
            for (int i = 0; i < text.length(); i++) {
                if (text.charAt(i) != tape.at(start + i)) {
                    return false;
                }
            }
            return true;
        }

        private static String textOf(int word) {
            switch (word) {
                case WALKER: return "walker";
                case TALL: return "tall";
                case CHILD: return "child";
                case GUIDE: return "guide";
                case PORTER: return "porter";
                case SLEEPY: return "sleepy";
                case NERVE: return "nerve";
                case ROOT: return "root";
                case CLEAR: return "clear";
                case LANTERN: return "lantern";
                case BRIGHT: return "bright";
                case SWAP: return "swap";
                default: return "";
            }
        }

        private static boolean isDigit(int b) {
            return b >= '0' && b <= '9';
        }

        private static boolean isLetter(int b) {
            return b >= 'a' && b <= 'z';
        }
    }
}
