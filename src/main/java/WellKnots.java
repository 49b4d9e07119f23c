import java.util.Arrays;

/** Wells along the salt road, what caravans owe to them in thirst, and what they owe each other. */
public final class WellKnots {
    public static final int BAD = -1, STATE = -2, FULL = -3, NONE = -9;
    public static final int NO = -1000000;

    private static final int WELLS = 6, STAGES = 8, CARAVANS = 4;
    private static final int MOST_BYTES = 200, MOST_HEARD = 6, MOST_UNDOS = 10;
    private static final int MOST_CUPS = 20, MOST_KNOTS = 99, MOST_SAND = 9999;
    private static final int MOST_TOLD = 60, MOST_HEAT = 9, MOST_BEARS = 20;
    private static final int MOST_SAFE_STAGES = 6, TENTHS = 10, MOST_STONES = 3;
    private static final int FAULT_BASE = -10;

    private static final int KIND_WELL = 0, KIND_KNOT = 1, KIND_DEW = 2;
    private static final int KIND_CHILD = 3, KIND_CAMEL = 4, KIND_MIRAGE = 5;

    private final Text text = new Text();
    private Road told = new Road();
    private Road draft = new Road();
    private final Ledger ledger = new Ledger();
    private final Ledger imageZero = new Ledger();
    private final Ledger imageOne = new Ledger();
    private int keptImages;
    private final Hearsay hearsay = new Hearsay();
    private final Ring best = new Ring();
    private final Way way = new Way();
    private final Settling settling = new Settling();
    private long traced;

    public WellKnots() {
    }

    // ---- the road

    public int type(int c) {
        if (!within(c, 0, 255)) {
            return BAD;
        }
        return text.append(c) ? text.size() : FULL;
    }

    public int clear() {
        return text.empty();
    }

    public int road() {
        int items = draft.tellAll(text);
        if (items < 0) {
            return items;
        }
        Road old = told;
        told = draft;
        draft = old;
        text.empty();
        ledger.begin(told.start);
        hearsay.drop();
        keptImages = 0;
        return items;
    }

    public int stage(int s, int what) {
        if (!told.hasStage(s)) {
            return BAD;
        }
        switch (what) {
            case 0: return told.firstEnd(s);
            case 1: return told.secondEnd(s);
            case 2: return told.heatOf(s);
            case 3: return told.isByNight(s) ? 1 : 0;
            case 4: return told.lenderOf(s);
            default: return BAD;
        }
    }

    public int caravan(int c, int what) {
        if (!told.hasCaravan(c)) {
            return BAD;
        }
        Moment now = ledger.now;
        switch (what) {
            case 0: return now.placeOf(c);
            case 1: return now.cupsOf(c);
            case 2: return told.bearsOf(c);
            case 3: return now.dryOf(c);
            case 4: return now.isAlive(c) ? 1 : 0;
            case 5: return now.knotsOfCaravan(c);
            default: return BAD;
        }
    }

    public int well(int w, int what) {
        if (!told.hasWell(w)) {
            return NO;
        }
        Moment now = ledger.now;
        switch (what) {
            case 0: return told.refusesNight(w) ? 1 : 0;
            case 1: return now.knotsAtWell(w);
            case 2: return now.duesBy(w);
            case 3: return now.netOf(w);
            default: return NO;
        }
    }

    public int knots(int c, int w) {
        return told.hasCaravan(c) && told.hasWell(w) ? ledger.now.knotsOf(c, w) : BAD;
    }

    public int dues(int w, int v) {
        return told.hasWell(w) && told.hasWell(v) && w != v ? ledger.now.duesOf(w, v) : BAD;
    }

    // ---- what is done

    public int goes(int c, int s, int d) {
        if (!told.hasCaravan(c) || !told.hasStage(s) || !within(d, 0, MOST_HEAT)) {
            return BAD;
        }
        Moment now = ledger.now;
        int end = told.otherEnd(s, now.placeOf(c));
        if (!now.isAlive(c) || end == NONE || d > now.cupsOf(c) || d > told.heatOf(s)) {
            return STATE;
        }
        ledger.remember();
        int thirst = told.heatOf(s) - d;
        now.setCups(c, now.cupsOf(c) - d);
        now.setPlace(c, end);
        now.setDry(c, now.dryOf(c) + thirst);
        if (now.dryOf(c) > told.bearsOf(c)) {
            now.die(c);
            return 0;
        }
        int lender = told.lenderOf(s);
        now.setKnots(c, lender, Math.max(0, now.knotsOf(c, lender) - told.paidBy(s, thirst)));
        return 1;
    }

    public int drinks(int c, int n) {
        if (!told.hasCaravan(c) || !within(n, 1, MOST_CUPS)) {
            return BAD;
        }
        Moment now = ledger.now;
        if (n > now.dryOf(c) || !canBorrow(c, n)) {
            return STATE;
        }
        ledger.remember();
        now.setDry(c, now.dryOf(c) - n);
        return borrow(c, n);
    }

    public int fills(int c, int n) {
        if (!told.hasCaravan(c) || !within(n, 1, MOST_CUPS)) {
            return BAD;
        }
        Moment now = ledger.now;
        if (now.cupsOf(c) + n > MOST_CUPS || !canBorrow(c, n)) {
            return STATE;
        }
        ledger.remember();
        now.setCups(c, now.cupsOf(c) + n);
        return borrow(c, n);
    }

    public int hands(int c, int e, int w, int n) {
        if (!told.hasCaravan(c) || !told.hasCaravan(e) || c == e) {
            return BAD;
        }
        if (!told.hasWell(w) || !within(n, 1, MOST_KNOTS)) {
            return BAD;
        }
        Moment now = ledger.now;
        int left = now.knotsOf(c, w) - n;
        int grown = now.knotsOf(e, w) + n;
        if (!now.isAlive(c) || !now.isAlive(e) || left < 0 || grown > MOST_KNOTS) {
            return STATE;
        }
        ledger.remember();
        now.setKnots(c, w, left);
        now.setKnots(e, w, grown);
        return grown;
    }

    public int strikes() {
        Moment now = ledger.now;
        best.find(now, told.wells);
        if (best.size == 0) {
            return STATE;
        }
        ledger.remember();
        for (int i = 0; i < best.size; i++) {
            int w = best.wellAt(i);
            int v = best.wellAt(i + 1 < best.size ? i + 1 : 0);
            now.setDues(w, v, now.duesOf(w, v) - best.strike);
        }
        return best.size * best.strike;
    }

    public int undo() {
        return ledger.takeBack() ? ledger.undos : STATE;
    }

    public int now(int what) {
        Moment now = ledger.now;
        switch (what) {
            case 0: return now.sand();
            case 1: return now.alive();
            case 2: return now.allKnots();
            case 3: return now.allDues();
            case 4: return settling.fewestPayments(now, told.wells);
            case 5: return told.salt();
            default: return BAD;
        }
    }

    // ---- what could be

    public int pass(int c, int w, int what) {
        if (!told.hasCaravan(c) || !told.hasWell(w) || !within(what, 0, 2)) {
            return BAD;
        }
        if (!ledger.now.isAlive(c)) {
            return STATE;
        }
        way.find(told, ledger.now, c, w);
        switch (what) {
            case 0: return way.length;
            case 1: return way.firstStage;
            default: return way.firstCups;
        }
    }

    public int ring(int i) {
        if (!within(i, -2, WELLS - 1)) {
            return BAD;
        }
        best.find(ledger.now, told.wells);
        if (best.size == 0) {
            return NONE;
        }
        switch (i) {
            case -2: return best.strike;
            case -1: return best.size;
            default: return best.wellAt(i);
        }
    }

    public int safe(int c, int h, int more, int n, int x, int what) {
        if (!told.hasCaravan(c) || !within(h, 0, MOST_HEAT) || !within(more, 0, MOST_HEAT)) {
            return BAD;
        }
        if (!within(n, 0, MOST_SAFE_STAGES) || !within(x, 0, TENTHS) || !within(what, 0, 1)) {
            return BAD;
        }
        if (!ledger.now.isAlive(c)) {
            return STATE;
        }
        int slack = told.bearsOf(c) - ledger.now.dryOf(c);
        int upper = chancesAlive(n, slack, h, more, x);
        int lower = 1;
        for (int i = 0; i < n; i++) {
            lower *= TENTHS;
        }
        // lower has no primes but 2 and 5, each n times
        for (int i = 0; i < n; i++) {
            if (upper % 2 == 0) {
                upper /= 2;
                lower /= 2;
            }
            if (upper % 5 == 0) {
                upper /= 5;
                lower /= 5;
            }
        }
        return what == 0 ? upper : lower;
    }

    // ---- stones

    public int hears(int c, int s, int d, int r) {
        if (!told.hasCaravan(c) || !told.hasStage(s)) {
            return BAD;
        }
        if (!within(d, 0, MOST_HEAT) || !within(r, 0, MOST_HEAT)) {
            return BAD;
        }
        return hearsay.append(c, told.heatOf(s) - d - r) ? hearsay.size : FULL;
    }

    public int forget() {
        return hearsay.drop();
    }

    public int stones(int what) {
        switch (what) {
            case 0: return hearsay.sucked();
            case 1: return hearsay.liars();
            default: return BAD;
        }
    }

    // ---- kinds, images

    public int mark(int kind, int w) {
        if (!told.hasWell(w)) {
            return NO;
        }
        switch (kind) {
            case KIND_WELL: return markAsWell(w);
            case KIND_KNOT: return markAsKnot(w);
            case KIND_DEW: return markAsDew(w);
            case KIND_CHILD: return markAsChild(w);
            case KIND_CAMEL: return markAsCamel(w);
            case KIND_MIRAGE: return markAsMirage(w);
            default: return NO;
        }
    }

    public int keep(int image) {
        if (!within(image, 0, 1)) {
            return BAD;
        }
        imageOf(image).become(ledger);
        keptImages |= 1 << image;
        return ledger.now.sand();
    }

    public int back(int image) {
        if (!within(image, 0, 1)) {
            return BAD;
        }
        if (!hasBit(keptImages, image)) {
            return STATE;
        }
        ledger.become(imageOf(image));
        return ledger.now.sand();
    }

    public int count(int what) {
        switch (what) {
            case 0: return told.wells;
            case 1: return told.stages;
            case 2: return told.caravans;
            case 3: return hearsay.size;
            case 4: return ledger.undos;
            case 5: return text.size();
            default: return BAD;
        }
    }

    public long trace() {
        return traced;
    }

    // ---- what the calls share

    private static boolean within(int n, int low, int high) {
        return low <= n && n <= high;
    }

    private static boolean hasBit(int bits, int i) {
        return (bits >> i & 1) == 1;
    }

    private boolean canBorrow(int c, int n) {
        Moment now = ledger.now;
        return now.isAlive(c) && now.knotsOf(c, now.placeOf(c)) + n <= MOST_KNOTS;
    }

    private int borrow(int c, int n) {
        Moment now = ledger.now;
        int w = now.placeOf(c);
        int grown = now.knotsOf(c, w) + n;
        now.setKnots(c, w, grown);
        return grown;
    }

    /** Of 10 to the power of stages: in how many the thirst never comes above slack. */
    private static int chancesAlive(int stages, int slack, int h, int more, int x) {
        if (slack < 0) {
            return 0;
        }
        if (stages <= 0) {
            return 1;
        }
        return x * chancesAlive(stages - 1, slack - h - more, h, more, x)
            + (TENTHS - x) * chancesAlive(stages - 1, slack - h, h, more, x);
    }

    private int markAsWell(int w) {
        traced += 1;
        return ledger.now.knotsAtWell(w);
    }

    private int markAsKnot(int w) {
        traced += 10;
        return markAsWell(w) + told.stagesLentBy(w);
    }

    private int markAsDew(int w) {
        traced += 100;
        return markAsWell(w) - ledger.now.duesBy(w);
    }

    private int markAsChild(int w) {
        traced += 1000;
        return markAsKnot(w) * 2;
    }

    private int markAsCamel(int w) {
        traced += 10000;
        return markAsDew(w) + w;
    }

    private int markAsMirage(int w) {
        traced += 100000;
        return markAsWell(w) + ledger.now.sand();
    }

    private Ledger imageOf(int image) {
        return image == 0 ? imageZero : imageOne;
    }

    /** THE TEXT, and a scan over it that stands on one token at a time. */
    private static final class Text {
        static final int END = 0, LETTERS = 1, NUMBER = 2, STOP = 3, WRONG = 4;

        private final int[] bytes = new int[MOST_BYTES];
        private int length;
        private int next;
        private int kind;
        private int place;
        private int value;

        boolean append(int c) {
            if (length >= MOST_BYTES) {
                return false;
            }
            bytes[length] = c;
            length++;
            return true;
        }

        int size() {
            return length;
        }

        int empty() {
            int had = length;
            length = 0;
            return had;
        }

        void rewind() {
            next = 0;
        }

        int tokenKind() {
            return kind;
        }

        int tokenPlace() {
            return place;
        }

        /** A number's worth; of letters that stand alone, the letter; of others 0. */
        int tokenValue() {
            return value;
        }

        void scan() {
            place = endOfRow(next, ' ', ' ');
            next = place;
            value = 0;
            if (place < 0 || place >= length || place >= MOST_BYTES) {
                kind = END;
                return;
            }
            int c = bytes[place];
            if (within(c, '0', '9')) {
                next = endOfRow(place, '0', '9');
                readNumber(c == '0');
            } else if (within(c, 'a', 'z')) {
                next = endOfRow(place, 'a', 'z');
                kind = LETTERS;
                value = next - place == 1 ? c : 0;
            } else {
                next = place + 1;
                kind = c == ';' ? STOP : WRONG;
            }
        }

        private void readNumber(boolean zeroAhead) {
            for (int i = place; i < next && i < MOST_BYTES; i++) {
                // held at 100, since a long row of digits would wrap around to a small number
                value = Math.min(100, value * 10 + bytes[i] - '0');
            }
            kind = value > 99 || zeroAhead && next - place > 1 ? WRONG : NUMBER;
        }

        /** Where the row of bytes from low to high that begins there, if one does, has its end. */
        private int endOfRow(int from, int low, int high) {
            int i = Math.max(0, from);
            while (i < length && i < MOST_BYTES && low <= bytes[i] && bytes[i] <= high) {
                i++;
            }
            return i;
        }
    }

    /** What a text told: the road itself, which nothing changes, and how all things stood at first. */
    private static final class Road {
        private int wells;
        private int stages;
        private int caravans;
        private final boolean[] refuses = new boolean[WELLS];
        private final int[] firstEnds = new int[STAGES];
        private final int[] secondEnds = new int[STAGES];
        private final int[] heats = new int[STAGES];
        private final boolean[] nights = new boolean[STAGES];
        private final int[] lenders = new int[STAGES];
        private final int[] bears = new int[CARAVANS];
        private final Moment start = new Moment();
        private final int[] said = new int[5];

        boolean hasWell(int w) {
            return 0 <= w && w < wells && w < WELLS;
        }

        boolean hasStage(int s) {
            return 0 <= s && s < stages && s < STAGES;
        }

        boolean hasCaravan(int c) {
            return 0 <= c && c < caravans && c < CARAVANS;
        }

        boolean refusesNight(int w) {
            return hasWell(w) && refuses[w];
        }

        int firstEnd(int s) {
            return hasStage(s) ? firstEnds[s] : NONE;
        }

        int secondEnd(int s) {
            return hasStage(s) ? secondEnds[s] : NONE;
        }

        int heatOf(int s) {
            return hasStage(s) ? heats[s] : 0;
        }

        boolean isByNight(int s) {
            return hasStage(s) && nights[s];
        }

        int lenderOf(int s) {
            return hasStage(s) ? lenders[s] : NONE;
        }

        int bearsOf(int c) {
            return hasCaravan(c) ? bears[c] : 0;
        }

        /** Where a stage leads from a well; NONE if it has no end there. */
        int otherEnd(int s, int w) {
            if (firstEnd(s) == w) {
                return secondEnd(s);
            }
            return secondEnd(s) == w ? firstEnd(s) : NONE;
        }

        int paidBy(int s, int thirst) {
            if (!isByNight(s)) {
                return thirst;
            }
            return refusesNight(lenderOf(s)) ? 0 : thirst / 2;
        }

        int stagesLentBy(int w) {
            int lent = 0;
            for (int s = 0; s < stages; s++) {
                if (lenderOf(s) == w) {
                    lent++;
                }
            }
            return lent;
        }

        /** The smallest set of wells with an end of each stage; counting up finds the least bits first. */
        int salt() {
            int least = (1 << wells) - 1;
            for (int set = 0; set < 1 << wells; set++) {
                if (Integer.bitCount(set) < Integer.bitCount(least) && endsEachStage(set)) {
                    least = set;
                }
            }
            return least;
        }

        private boolean endsEachStage(int set) {
            for (int s = 0; s < stages; s++) {
                if (!hasBit(set, firstEnd(s)) && !hasBit(set, secondEnd(s))) {
                    return false;
                }
            }
            return true;
        }

        /** How many items the text tells; below 0 if it has a fault, and then this road is of no use. */
        int tellAll(Text text) {
            wells = 0;
            stages = 0;
            caravans = 0;
            start.wipe();
            text.rewind();
            int items = 0;
            text.scan();
            // an item takes several bytes, so there are fewer items than bytes
            while (text.tokenKind() != Text.END && items < MOST_BYTES) {
                if (!tellItem(text)) {
                    return FAULT_BASE - text.tokenPlace();
                }
                items++;
                text.scan();
            }
            return items;
        }

        private boolean tellItem(Text text) {
            if (text.tokenKind() != Text.LETTERS) {
                return false;
            }
            switch (text.tokenValue()) {
                case 'w': return tellWell(text);
                case 's': return tellStage(text);
                case 'c': return tellCaravan(text);
                case 'k': return tellKnots(text);
                case 'd': return tellDues(text);
                default: return false;
            }
        }

        private boolean tellWell(Text text) {
            if (wells >= WELLS || !hear(text, 0, 0, 1) || !hearStop(text)) {
                return false;
            }
            refuses[wells] = said[0] == 1;
            wells++;
            return true;
        }

        private boolean tellStage(Text text) {
            if (stages >= STAGES || !hear(text, 0, 0, wells - 1) || !hear(text, 1, 0, wells - 1)) {
                return false;
            }
            if (said[0] == said[1] || !hear(text, 2, 1, MOST_HEAT) || !hear(text, 3, 0, 1)) {
                return false;
            }
            if (!hear(text, 4, 0, wells - 1) || !hearStop(text)) {
                return false;
            }
            firstEnds[stages] = said[0];
            secondEnds[stages] = said[1];
            heats[stages] = said[2];
            nights[stages] = said[3] == 1;
            lenders[stages] = said[4];
            stages++;
            return true;
        }

        private boolean tellCaravan(Text text) {
            if (caravans >= CARAVANS || !hear(text, 0, 0, wells - 1)) {
                return false;
            }
            if (!hear(text, 1, 0, MOST_CUPS) || !hear(text, 2, 1, MOST_BEARS) || !hearStop(text)) {
                return false;
            }
            start.setPlace(caravans, said[0]);
            start.setCups(caravans, said[1]);
            start.wake(caravans);
            bears[caravans] = said[2];
            caravans++;
            return true;
        }

        private boolean tellKnots(Text text) {
            if (!hear(text, 0, 0, caravans - 1) || !hear(text, 1, 0, wells - 1)) {
                return false;
            }
            if (!hear(text, 2, 0, MOST_TOLD) || !hearStop(text)) {
                return false;
            }
            start.setKnots(said[0], said[1], said[2]);
            return true;
        }

        private boolean tellDues(Text text) {
            if (!hear(text, 0, 0, wells - 1) || !hear(text, 1, 0, wells - 1) || said[0] == said[1]) {
                return false;
            }
            if (!hear(text, 2, 0, MOST_TOLD) || !hearStop(text)) {
                return false;
            }
            start.setDues(said[0], said[1], said[2]);
            return true;
        }

        /** Takes the next token as the i-th number said; a false answer leaves the scan on what is wrong. */
        private boolean hear(Text text, int i, int low, int high) {
            text.scan();
            int n = text.tokenValue();
            if (text.tokenKind() != Text.NUMBER || n < low || n > high || i < 0 || i >= said.length) {
                return false;
            }
            said[i] = n;
            return true;
        }

        private static boolean hearStop(Text text) {
            text.scan();
            return text.tokenKind() == Text.STOP;
        }
    }

    /** All that deeds change, in one row, so that a moment is kept and brought back by one copy. */
    private static final class Moment {
        private static final int SAND = 0, ALIVE = 1, PLACE = 2;
        private static final int CUPS = PLACE + CARAVANS, DRY = CUPS + CARAVANS, KNOTS = DRY + CARAVANS;
        private static final int DUES = KNOTS + CARAVANS * WELLS;
        static final int SIZE = DUES + WELLS * WELLS;

        private final int[] row = new int[SIZE];

        void wipe() {
            Arrays.fill(row, 0);
        }

        void become(Moment other) {
            System.arraycopy(other.row, 0, row, 0, SIZE);
        }

        void writeTo(int[] rows, int slot) {
            if (slot >= 0 && (slot + 1) * SIZE <= rows.length) {
                System.arraycopy(row, 0, rows, slot * SIZE, SIZE);
            }
        }

        void readFrom(int[] rows, int slot) {
            if (slot >= 0 && (slot + 1) * SIZE <= rows.length) {
                System.arraycopy(rows, slot * SIZE, row, 0, SIZE);
            }
        }

        int sand() {
            return row[SAND];
        }

        int alive() {
            return row[ALIVE];
        }

        boolean isAlive(int c) {
            return isCaravan(c) && hasBit(row[ALIVE], c);
        }

        void wake(int c) {
            if (isCaravan(c)) {
                row[ALIVE] |= 1 << c;
            }
        }

        void die(int c) {
            if (!isCaravan(c)) {
                return;
            }
            row[ALIVE] &= ~(1 << c);
            row[SAND] = Math.min(MOST_SAND, row[SAND] + knotsOfCaravan(c));
            for (int w = 0; w < WELLS; w++) {
                setKnots(c, w, 0);
            }
        }

        int placeOf(int c) {
            return isCaravan(c) ? row[PLACE + c] : NONE;
        }

        void setPlace(int c, int w) {
            if (isCaravan(c)) {
                row[PLACE + c] = w;
            }
        }

        int cupsOf(int c) {
            return isCaravan(c) ? row[CUPS + c] : 0;
        }

        void setCups(int c, int n) {
            if (isCaravan(c)) {
                row[CUPS + c] = n;
            }
        }

        int dryOf(int c) {
            return isCaravan(c) ? row[DRY + c] : 0;
        }

        void setDry(int c, int n) {
            if (isCaravan(c)) {
                row[DRY + c] = n;
            }
        }

        int knotsOf(int c, int w) {
            return isCaravan(c) && isWell(w) ? row[KNOTS + c * WELLS + w] : 0;
        }

        void setKnots(int c, int w, int n) {
            if (isCaravan(c) && isWell(w)) {
                row[KNOTS + c * WELLS + w] = n;
            }
        }

        int duesOf(int w, int v) {
            return isWell(w) && isWell(v) ? row[DUES + w * WELLS + v] : 0;
        }

        void setDues(int w, int v, int n) {
            if (isWell(w) && isWell(v)) {
                row[DUES + w * WELLS + v] = n;
            }
        }

        int knotsOfCaravan(int c) {
            int sum = 0;
            for (int w = 0; w < WELLS; w++) {
                sum += knotsOf(c, w);
            }
            return sum;
        }

        int knotsAtWell(int w) {
            int sum = 0;
            for (int c = 0; c < CARAVANS; c++) {
                sum += knotsOf(c, w);
            }
            return sum;
        }

        int allKnots() {
            int sum = 0;
            for (int w = 0; w < WELLS; w++) {
                sum += knotsAtWell(w);
            }
            return sum;
        }

        int duesBy(int w) {
            int sum = 0;
            for (int v = 0; v < WELLS; v++) {
                sum += duesOf(w, v);
            }
            return sum;
        }

        int duesTo(int w) {
            int sum = 0;
            for (int v = 0; v < WELLS; v++) {
                sum += duesOf(v, w);
            }
            return sum;
        }

        int allDues() {
            int sum = 0;
            for (int w = 0; w < WELLS; w++) {
                sum += duesBy(w);
            }
            return sum;
        }

        int netOf(int w) {
            return duesTo(w) - duesBy(w);
        }

        private static boolean isCaravan(int c) {
            return 0 <= c && c < CARAVANS;
        }

        private static boolean isWell(int w) {
            return 0 <= w && w < WELLS;
        }
    }

    /** The moment that is now, and those before the latest deeds, the oldest first. */
    private static final class Ledger {
        private final Moment now = new Moment();
        private final int[] past = new int[MOST_UNDOS * Moment.SIZE];
        private int undos;

        void begin(Moment start) {
            now.become(start);
            undos = 0;
        }

        void remember() {
            if (undos >= MOST_UNDOS) {
                System.arraycopy(past, Moment.SIZE, past, 0, (MOST_UNDOS - 1) * Moment.SIZE);
                undos = MOST_UNDOS - 1;
            }
            now.writeTo(past, undos);
            undos++;
        }

        boolean takeBack() {
            if (undos <= 0) {
                return false;
            }
            undos--;
            now.readFrom(past, undos);
            return true;
        }

        void become(Ledger other) {
            now.become(other.now);
            System.arraycopy(other.past, 0, past, 0, past.length);
            undos = other.undos;
        }
    }

    /** What was heard: of which caravan, and the stones that follow from it. */
    private static final class Hearsay {
        private final int[] caravans = new int[MOST_HEARD];
        private final int[] stones = new int[MOST_HEARD];
        private int size;

        boolean append(int c, int n) {
            if (size >= MOST_HEARD) {
                return false;
            }
            caravans[size] = c;
            stones[size] = n;
            size++;
            return true;
        }

        int drop() {
            int had = size;
            size = 0;
            return had;
        }

        int sucked() {
            int bits = 0;
            for (int i = 0; i < size && i < MOST_HEARD; i++) {
                if (within(stones[i], 1, MOST_STONES)) {
                    bits |= 1 << caravans[i];
                }
            }
            return bits;
        }

        int liars() {
            int bits = 0;
            for (int i = 0; i < size && i < MOST_HEARD; i++) {
                if (!within(stones[i], 0, MOST_STONES)) {
                    bits |= 1 << caravans[i];
                }
            }
            return bits;
        }
    }

    /** The ring of wells that is worth most to strike; size 0 if there is none. */
    private static final class Ring {
        private final int[] ring = new int[WELLS];
        private final int[] path = new int[WELLS];
        private int size;
        private int strike;

        int wellAt(int i) {
            return 0 <= i && i < size && i < WELLS ? ring[i] : NONE;
        }

        void find(Moment now, int wells) {
            size = 0;
            strike = 0;
            for (int w = 0; w < wells && w < WELLS; w++) {
                path[0] = w;
                walk(now, wells, 1, 1 << w, MOST_TOLD);
            }
        }

        /** Goes on from a path through wells above its first, so that each ring is met from its lowest well. */
        private void walk(Moment now, int wells, int length, int met, int least) {
            if (length < 1 || length > WELLS) {
                return;
            }
            int last = path[length - 1];
            int home = now.duesOf(last, path[0]);
            if (length >= 2 && home > 0) {
                offer(length, Math.min(least, home));
            }
            for (int w = path[0] + 1; w < wells && length < WELLS; w++) {
                int dues = now.duesOf(last, w);
                if (dues > 0 && !hasBit(met, w)) {
                    path[length] = w;
                    walk(now, wells, length + 1, met | 1 << w, Math.min(least, dues));
                }
            }
        }

        /** Paths come in rising order, so of rings alike in worth and length the first one stays. */
        private void offer(int length, int least) {
            int worth = length * least;
            int bestWorth = size * strike;
            if (worth > bestWorth || worth == bestWorth && length < size) {
                size = length;
                strike = least;
                System.arraycopy(path, 0, ring, 0, WELLS);
            }
        }
    }

    /** The fewest stages by which a caravan comes alive to a well. */
    private static final class Way {
        private static final int FAR = 1000;

        // least heat from each well to the goal by just so many stages
        private final int[] heats = new int[WELLS];
        private final int[] longer = new int[WELLS];
        private int length;
        private int firstStage;
        private int firstCups;

        /**
         * Cups may be spread over the stages at will, so a row of stages can be lived through just if
         * its heat is no more than the cups and what the caravan can still bear together.
         */
        void find(Road road, Moment now, int c, int goal) {
            int place = now.placeOf(c);
            int slack = road.bearsOf(c) - now.dryOf(c);
            length = place == goal ? 0 : NONE;
            firstStage = NONE;
            firstCups = NONE;
            Arrays.fill(heats, FAR);
            if (0 <= goal && goal < WELLS) {
                heats[goal] = 0;
            }
            // the fewest stages meet no well twice
            for (int stages = 1; stages < road.wells && length == NONE; stages++) {
                int s = firstOnto(road, place, now.cupsOf(c) + slack);
                if (s != NONE) {
                    length = stages;
                    firstStage = s;
                    firstCups = Math.max(0, road.heatOf(s) - slack);
                }
                lengthen(road);
            }
        }

        private int firstOnto(Road road, int place, int bearable) {
            for (int s = 0; s < road.stages; s++) {
                if (heatOver(road, s, place) <= bearable) {
                    return s;
                }
            }
            return NONE;
        }

        private void lengthen(Road road) {
            for (int w = 0; w < WELLS; w++) {
                longer[w] = FAR;
                for (int s = 0; s < road.stages; s++) {
                    longer[w] = Math.min(longer[w], heatOver(road, s, w));
                }
            }
            System.arraycopy(longer, 0, heats, 0, WELLS);
        }

        /** The heat of a stage from a well and of the best way on behind it. */
        private int heatOver(Road road, int s, int w) {
            int end = road.otherEnd(s, w);
            return 0 <= end && end < WELLS ? Math.min(FAR, road.heatOf(s) + heats[end]) : FAR;
        }
    }

    /** How few payments bring all nets to 0. */
    private static final class Settling {
        private static final int SETS = 1 << WELLS;

        private final int[] groups = new int[SETS];

        /** A group of wells whose nets add up to 0 needs one payment fewer than it has wells: most groups are best. */
        int fewestPayments(Moment now, int wells) {
            int all = 1 << Math.max(0, Math.min(wells, WELLS));
            for (int set = 1; set < all && set < SETS; set++) {
                int sum = 0;
                int most = 0;
                for (int w = 0; w < WELLS; w++) {
                    if (hasBit(set, w)) {
                        sum += now.netOf(w);
                        most = Math.max(most, groups[set ^ 1 << w]);
                    }
                }
                groups[set] = sum == 0 ? most + 1 : most;
            }
            return wells - groups[all - 1];
        }
    }
}
