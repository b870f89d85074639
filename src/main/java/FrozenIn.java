import java.util.Arrays;

/** A sea of drifting FLOES; what each call answers is promised in the document (DOC.md). */
public final class FrozenIn {
    public static final int NONE = -1, BAD = -2, NO = -3, FULL = -4;

    private static final int SIDE = 6;
    private static final int CELLS = 36;
    private static final int OUT_COLUMN = 5;
    private static final int POLE = 14;
    private static final int WAYS = 4;
    private static final int MOST_STRENGTH = 3;
    private static final int KINDS = 6;
    private static final int YEAR = 12;
    private static final int LAST_MONTH = 999;
    private static final int LAST_FIRST_MONTH = 99;
    private static final int MOST_FLOES = 5;
    private static final int MOST_FOOD_AT_FIRST = 60;
    private static final int MOST_FOOD = 99;
    private static final int MOST_FED = 60;
    private static final int MOST_FOUND = 4;
    private static final int MOST_NOTES = 6;
    private static final int MOST_UNDONE = 8;
    private static final int MOST_BYTES = 150;
    private static final int IMAGES = 2;
    /** How many MONTHS a call lets go by, or looks ahead. */
    private static final int AHEAD = 60;
    private static final int DOGS_MONTHS = 30;
    private static final int DOGS_FAR = 2;
    private static final int WAIT_MONTHS = 24;
    private static final int LEAVE_MONTHS = 6;
    private static final int LEAVE_TOGETHER = 5;
    private static final int LEAVE_BAD = -10;
    private static final int LEAVE_NOT_SO_MANY = -5;
    private static final int READ_FAULT = -10;
    private static final int CALMS_MONTHS = 8;
    private static final int TENTHS = 10;
    private static final int MOST_SEED = 999999;

    private final Sea now = new Sea();
    /** What is read comes in here first, so that a FAULT leaves all as it was. */
    private final Sea spare = new Sea();
    /** Null where none was kept; made once, then used again. */
    private final Sea[] images = new Sea[IMAGES];
    private final Text text = new Text();
    private final long[] odds = new long[CELLS];
    private final long[] nextOdds = new long[CELLS];
    /** Of the one who leaves a behind i MONTHS at i, of the one who leaves b at LEAVE_MONTHS + j. */
    private final int[] gains = new int[2 * LEAVE_MONTHS];
    private long above;
    private long below = 1;
    private int bads;
    private int nos;
    private int fulls;

    public FrozenIn() {
    }

    // ---- a sea

    public int sea(int month) {
        if (!within(month, 0, LAST_FIRST_MONTH)) {
            return refuseBad();
        }
        int floes = now.floes;
        now.begin(month);
        return floes;
    }

    public int wind(int m, int way, int strength) {
        if (!within(m, 0, YEAR - 1) || !isWind(way, strength)) {
            return refuseBad();
        }
        int ahead = 10 * now.ways[m] + now.strengths[m];
        now.tellWind(m, way, strength);
        return ahead;
    }

    public int floe(int kind, int cell, int food) {
        if (!isKind(kind) || !isCell(cell) || !within(food, 0, MOST_FOOD_AT_FIRST)) {
            return refuseBad();
        }
        if (now.floes >= MOST_FLOES) {
            return refuseFull();
        }
        now.addFloe(kind, cell, food);
        return now.floes - 1;
    }

    public int type(int c) {
        if (!within(c, 0, 127)) {
            return refuseBad();
        }
        if (text.length >= MOST_BYTES) {
            return refuseFull();
        }
        text.add(c);
        return text.length;
    }

    public int clear() {
        int length = text.length;
        text.empty();
        return length;
    }

    public int read() {
        int items = text.readInto(spare);
        if (items > 0) {
            now.takeFrom(spare);
        }
        return items;
    }

    // ---- months

    public int month(int n) {
        if (!within(n, 1, AHEAD)) {
            return refuseBad();
        }
        now.keepToUndo();
        for (int i = 0; i < n; i++) {
            now.passMonth();
        }
        return now.floesOut();
    }

    public int feed(int f, int n) {
        if (!isFloe(f) || !within(n, 1, MOST_FED)) {
            return refuseBad();
        }
        now.keepToUndo();
        now.foods[f] = Math.min(MOST_FOOD, now.foods[f] + n);
        return now.foods[f];
    }

    public int moves(int f, int cell) {
        if (!isFloe(f) || !isCell(cell)) {
            return refuseBad();
        }
        now.keepToUndo();
        int was = now.cells[f];
        now.cells[f] = cell;
        return was;
    }

    public int undo() {
        if (now.undos == 0) {
            return refuseNo();
        }
        now.takeBack();
        return now.month;
    }

    public int of(int f, int what) {
        if (!isFloe(f)) {
            return refuseBad();
        }
        switch (what) {
            case 0: return now.kinds[f];
            case 1: return now.cells[f];
            case 2: return now.foods[f];
            case 3: return isOut(now.cells[f]) ? 1 : 0;
            default: return refuseBad();
        }
    }

    // ---- where it drifts

    public int then(int f, int m) {
        if (!isFloe(f) || !within(m, 0, AHEAD)) {
            return refuseBad();
        }
        return now.cellBehind(f, m);
    }

    public int out(int f) {
        return isFloe(f) ? now.firstOut(now.kinds[f], now.cells[f]) : refuseBad();
    }

    public int need(int f) {
        if (!isFloe(f)) {
            return refuseBad();
        }
        int months = now.firstOut(now.kinds[f], now.cells[f]);
        return months == NONE ? NONE : Math.max(0, months - now.foods[f]);
    }

    public int enter(int kind, int n) {
        if (!isKind(kind) || !within(n, 0, AHEAD)) {
            return refuseBad();
        }
        int rows = 0;
        for (int row = 0; row < SIDE; row++) {
            int months = now.firstOut(kind, SIDE * row);
            if (months != NONE && months <= n) {
                rows |= 1 << row;
            }
        }
        return rows;
    }

    public int nearest(int a, int b, int what) {
        if (!areUnlikeFloes(a, b) || !isFirstOrSecond(what)) {
            return refuseBad();
        }
        int cellOfA = now.cells[a];
        int cellOfB = now.cells[b];
        int months = 0;
        int least = far(cellOfA, cellOfB);
        for (int i = 1; i <= AHEAD; i++) {
            cellOfA = now.nextCell(now.kinds[a], cellOfA, now.month + i - 1);
            cellOfB = now.nextCell(now.kinds[b], cellOfB, now.month + i - 1);
            if (far(cellOfA, cellOfB) < least) {
                least = far(cellOfA, cellOfB);
                months = i;
            }
        }
        return what == 0 ? months : least;
    }

    public int dogs(int f, int what) {
        if (!isFloe(f) || !isFirstOrSecond(what)) {
            return refuseBad();
        }
        int toPole = Math.max(1, dogMonths(far(now.cells[f], POLE)));
        return what == 0 ? dogsAndBack(f, toPole) : toPole;
    }

    // ---- from where

    public int found(int kind, int m, int cell) {
        if (!isKind(kind) || !within(m, 1, AHEAD) || !isCell(cell)) {
            return refuseBad();
        }
        if (now.founds >= MOST_FOUND) {
            return refuseFull();
        }
        now.addFound(kind, m, cell);
        return now.founds;
    }

    public int whence(int what) {
        if (!isFirstOrSecond(what)) {
            return refuseBad();
        }
        int fitting = 0;
        int least = NONE;
        for (int cell = CELLS - 1; cell >= 0; cell--) {
            if (now.allFoundFrom(cell)) {
                fitting++;
                least = cell;
            }
        }
        return what == 0 ? fitting : least;
    }

    public int note(int f, int m, int w, int s, int c, int y, int n) {
        boolean asTold = isFloe(f) && within(m, 0, 99) && isWind(w, s)
                && within(c, 0, SIDE - 1) && isWind(y, n);
        if (!asTold) {
            return refuseBad();
        }
        if (now.notes >= MOST_NOTES) {
            return refuseFull();
        }
        now.addNote(f, m, w, s, c, y, n);
        return now.notes;
    }

    public int forget(int what) {
        if (!isFirstOrSecond(what)) {
            return refuseBad();
        }
        int were = what == 0 ? now.founds : now.notes;
        if (what == 0) {
            now.founds = 0;
        } else {
            now.notes = 0;
        }
        return were;
    }

    public int is(int f) {
        return isFloe(f) ? now.kindsByNotes(f) : refuseBad();
    }

    public int waits(int f) {
        if (!isFloe(f)) {
            return refuseBad();
        }
        int kinds = now.kindsByNotes(f);
        if (kinds == 0) {
            return NONE;
        }
        int months = 0;
        int fewest = KINDS + 1;
        for (int i = 0; i < WAIT_MONTHS; i++) {
            int alike = now.mostAlike(kinds, now.month + i, now.cells[f] % SIDE);
            if (alike < fewest) {
                fewest = alike;
                months = i;
            }
        }
        return months;
    }

    public int leave(int a, int b, int k) {
        if (!areUnlikeFloes(a, b) || k < NONE) {
            bads++;
            return LEAVE_BAD;
        }
        weighLeaving(a, b);
        int resting = 0;
        for (int pair = 0; pair < LEAVE_MONTHS * LEAVE_MONTHS; pair++) {
            if (rests(pair / LEAVE_MONTHS, pair % LEAVE_MONTHS)) {
                if (resting == k) {
                    return pair;
                }
                resting++;
            }
        }
        return k == NONE ? resting : LEAVE_NOT_SO_MANY;
    }

    public int calms(int f, int m, int c) {
        if (!isFloe(f) || !within(m, 0, CALMS_MONTHS) || !within(c, 0, TENTHS)) {
            return refuseBad();
        }
        Arrays.fill(odds, 0L);
        odds[now.cells[f]] = 1;
        long all = 1;
        for (int i = 0; i < m; i++) {
            driftOdds(now.kinds[f], now.month + i, c);
            all *= TENTHS;
        }
        long ofOut = 0;
        for (int cell = OUT_COLUMN; cell < CELLS; cell += SIDE) {
            ofOut += odds[cell];
        }
        setFraction(ofOut, all);
        return 1;
    }

    public int years(int seed, int n) {
        if (!within(seed, 0, MOST_SEED) || !within(n, 0, AHEAD)) {
            return refuseBad();
        }
        int floesOut = 0;
        for (int f = 0; f < now.floes; f++) {
            if (isOut(now.cellBySeed(f, seed, n))) {
                floesOut++;
            }
        }
        return floesOut;
    }

    // ---- what there is

    public long part(int what) {
        if (!isFirstOrSecond(what)) {
            return refuseBad();
        }
        return what == 0 ? above : below;
    }

    public int image(int i) {
        if (!within(i, 0, IMAGES - 1)) {
            return refuseBad();
        }
        if (images[i] == null) {
            images[i] = new Sea();
        }
        images[i].takeFrom(now);
        return 1;
    }

    public int from(int i) {
        if (!within(i, 0, IMAGES - 1)) {
            return refuseBad();
        }
        if (images[i] == null) {
            return refuseNo();
        }
        now.takeFrom(images[i]);
        return 1;
    }

    public int status(int what) {
        switch (what) {
            case 0: return bads;
            case 1: return nos;
            case 2: return fulls;
            default:
                bads++;
                return NONE;
        }
    }

    public int count(int what) {
        switch (what) {
            case 0: return now.floes;
            case 1: return now.month;
            case 2: return now.floesOut();
            case 3: return now.founds;
            case 4: return now.notes;
            case 5: return now.undos;
            case 6: return text.length;
            default: return refuseBad();
        }
    }

    public long digest() {
        long h = 1427;
        for (int what = 0; what <= 6; what++) {
            h = 31 * h + count(what);
        }
        h = now.foldInto(h);
        h = 31 * h + above;
        return 31 * h + below;
    }

    // ---- what is refused

    private int refuseBad() {
        bads++;
        return BAD;
    }

    private int refuseNo() {
        nos++;
        return NO;
    }

    private int refuseFull() {
        fulls++;
        return FULL;
    }

    private boolean isFloe(int f) {
        return within(f, 0, now.floes - 1);
    }

    private boolean areUnlikeFloes(int a, int b) {
        return isFloe(a) && isFloe(b) && a != b;
    }

    private static boolean within(int number, int least, int most) {
        return number >= least && number <= most;
    }

    private static boolean isKind(int kind) {
        return within(kind, 0, KINDS - 1);
    }

    private static boolean isCell(int cell) {
        return within(cell, 0, CELLS - 1);
    }

    private static boolean isWind(int way, int strength) {
        return within(way, 0, WAYS - 1) && within(strength, 0, MOST_STRENGTH);
    }

    private static boolean isFirstOrSecond(int what) {
        return within(what, 0, 1);
    }

    // ---- what the calls are made of

    private static boolean isOut(int cell) {
        return cell % SIDE == OUT_COLUMN;
    }

    private static int far(int a, int b) {
        return Math.abs(a / SIDE - b / SIDE) + Math.abs(a % SIDE - b % SIDE);
    }

    private static int dogMonths(int cells) {
        return (cells + DOGS_FAR - 1) / DOGS_FAR;
    }

    /** To be at THE POLE as soon as one can loses nothing: one may stay there as long as one likes. */
    private int dogsAndBack(int f, int toPole) {
        for (int months = toPole; months <= DOGS_MONTHS; months++) {
            if (dogMonths(far(POLE, now.cellBehind(f, months))) <= months - toPole) {
                return months;
            }
        }
        return NONE;
    }

    /** What each gets who goes alone; who goes in the same MONTH as the other gets less than this. */
    private void weighLeaving(int a, int b) {
        for (int i = 0; i < LEAVE_MONTHS; i++) {
            int apart = far(now.cellBehind(a, i), now.cellBehind(b, i));
            gains[i] = now.foodBehind(b, i) - apart;
            gains[LEAVE_MONTHS + i] = now.foodBehind(a, i) - apart;
        }
    }

    private boolean rests(int i, int j) {
        for (int other = 0; other < LEAVE_MONTHS; other++) {
            if (gain(0, other, j) > gain(0, i, j) || gain(LEAVE_MONTHS, other, i) > gain(LEAVE_MONTHS, j, i)) {
                return false;
            }
        }
        return true;
    }

    private int gain(int first, int month, int monthOfOther) {
        return gains[first + month] - (month == monthOfOther ? LEAVE_TOGETHER : 0);
    }

    private void driftOdds(int kind, int m, int c) {
        Arrays.fill(nextOdds, 0L);
        int way = now.ways[m % YEAR];
        for (int cell = 0; cell < CELLS; cell++) {
            int calm = Drift.cellBy(kind, cell, m, way, 0);
            int blown = now.nextCell(kind, cell, m);
            nextOdds[calm] += odds[cell] * c;
            nextOdds[blown] += odds[cell] * (TENTHS - c);
        }
        System.arraycopy(nextOdds, 0, odds, 0, CELLS);
    }

    private void setFraction(long newAbove, long newBelow) {
        long divisor = commonDivisor(newAbove, newBelow);
        if (divisor > 0) {
            above = newAbove / divisor;
            below = newBelow / divisor;
        }
    }

    private static long commonDivisor(long a, long b) {
        long greater = a;
        long rest = b;
        // Each two steps halve what is left, so a long needs fewer than 128.
        for (int i = 0; i < 128 && rest != 0; i++) {
            long left = greater % rest;
            greater = rest;
            rest = left;
        }
        return greater;
    }

    /** How the KINDS drift, each by the one that it stands under; those not named here as PLAIN. */
    private static final class Drift {
        private static final int LEAD = 1;
        private static final int RING = 2;
        private static final int SHOAL = 3;
        private static final int BACK = 4;
        private static final int SPLIT = 5;

        private Drift() {
        }

        static int wayOf(int kind, int m, int w) {
            int ring = m % 2 == 1 ? (w + 1) % WAYS : w;
            switch (kind) {
                case RING: return ring;
                case BACK: return m % 3 == 0 ? (ring + 2) % WAYS : ring;
                default: return w;
            }
        }

        static int cellsOf(int kind, int s, int c) {
            int plain = s >= 1 ? 1 : 0;
            int lead = s == 3 ? plain + 1 : plain;
            switch (kind) {
                case LEAD: return lead;
                case SHOAL: return c <= 1 && s < 2 ? 0 : plain;
                case SPLIT: return c >= 3 && lead > 0 ? lead - 1 : lead;
                default: return plain;
            }
        }

        /** One number for WAY and CELLS, so that FLOES that drift alike have the same. */
        static int tracks(int kind, int m, int w, int s, int c) {
            int cells = cellsOf(kind, s, c);
            return cells == 0 ? 0 : WAYS * cells + wayOf(kind, m, w);
        }

        static int cellBy(int kind, int cell, int m, int w, int s) {
            int row = cell / SIDE;
            int column = cell % SIDE;
            int cells = cellsOf(kind, s, column);
            switch (wayOf(kind, m, w)) {
                case 0: return SIDE * row + Math.min(SIDE - 1, column + cells);
                case 1: return SIDE * Math.min(SIDE - 1, row + cells) + column;
                case 2: return SIDE * row + Math.max(0, column - cells);
                default: return SIDE * Math.max(0, row - cells) + column;
            }
        }
    }

    /** All that an IMAGE keeps. */
    private static final class Sea {
        private static final int FOUND_SIZE = 3;
        private static final int NOTE_SIZE = 7;
        private static final int UNDO_SIZE = 1 + 2 * MOST_FLOES;

        int month;
        final int[] ways = new int[YEAR];
        final int[] strengths = new int[YEAR];
        int floes;
        final int[] kinds = new int[MOST_FLOES];
        final int[] cells = new int[MOST_FLOES];
        final int[] foods = new int[MOST_FLOES];
        int founds;
        private final int[] foundRows = new int[FOUND_SIZE * MOST_FOUND];
        int notes;
        private final int[] noteRows = new int[NOTE_SIZE * MOST_NOTES];
        int undos;
        /** A row each: the MONTH, the CELLS, the FOOD; the last one is undone first. */
        private final int[] undoRows = new int[UNDO_SIZE * MOST_UNDONE];

        Sea() {
            Arrays.fill(strengths, 1);
        }

        void begin(int firstMonth) {
            month = firstMonth;
            Arrays.fill(ways, 0);
            Arrays.fill(strengths, 1);
            floes = 0;
            founds = 0;
            notes = 0;
            undos = 0;
        }

        void takeFrom(Sea other) {
            month = other.month;
            System.arraycopy(other.ways, 0, ways, 0, YEAR);
            System.arraycopy(other.strengths, 0, strengths, 0, YEAR);
            floes = other.floes;
            System.arraycopy(other.kinds, 0, kinds, 0, MOST_FLOES);
            System.arraycopy(other.cells, 0, cells, 0, MOST_FLOES);
            System.arraycopy(other.foods, 0, foods, 0, MOST_FLOES);
            founds = other.founds;
            System.arraycopy(other.foundRows, 0, foundRows, 0, FOUND_SIZE * MOST_FOUND);
            notes = other.notes;
            System.arraycopy(other.noteRows, 0, noteRows, 0, NOTE_SIZE * MOST_NOTES);
            undos = other.undos;
            System.arraycopy(other.undoRows, 0, undoRows, 0, UNDO_SIZE * MOST_UNDONE);
        }

        void tellWind(int m, int way, int strength) {
            ways[m] = way;
            strengths[m] = strength;
            undos = 0;
        }

        void addFloe(int kind, int cell, int food) {
            kinds[floes] = kind;
            cells[floes] = cell;
            foods[floes] = food;
            floes++;
            undos = 0;
        }

        void addFound(int kind, int m, int cell) {
            int at = FOUND_SIZE * founds;
            foundRows[at] = kind;
            foundRows[at + 1] = m;
            foundRows[at + 2] = cell;
            founds++;
        }

        void addNote(int f, int m, int w, int s, int c, int y, int n) {
            int at = NOTE_SIZE * notes;
            noteRows[at] = f;
            noteRows[at + 1] = m;
            noteRows[at + 2] = w;
            noteRows[at + 3] = s;
            noteRows[at + 4] = c;
            noteRows[at + 5] = y;
            noteRows[at + 6] = n;
            notes++;
        }

        void passMonth() {
            if (month >= LAST_MONTH) {
                return;
            }
            for (int f = 0; f < floes; f++) {
                cells[f] = nextCell(kinds[f], cells[f], month);
                foods[f] = Math.max(0, foods[f] - 1);
            }
            month++;
        }

        void keepToUndo() {
            if (undos == MOST_UNDONE) {
                System.arraycopy(undoRows, UNDO_SIZE, undoRows, 0, UNDO_SIZE * (MOST_UNDONE - 1));
                undos--;
            }
            int at = UNDO_SIZE * undos;
            undoRows[at] = month;
            System.arraycopy(cells, 0, undoRows, at + 1, MOST_FLOES);
            System.arraycopy(foods, 0, undoRows, at + 1 + MOST_FLOES, MOST_FLOES);
            undos++;
        }

        void takeBack() {
            undos--;
            int at = UNDO_SIZE * undos;
            month = undoRows[at];
            System.arraycopy(undoRows, at + 1, cells, 0, MOST_FLOES);
            System.arraycopy(undoRows, at + 1 + MOST_FLOES, foods, 0, MOST_FLOES);
        }

        int floesOut() {
            int outside = 0;
            for (int f = 0; f < floes; f++) {
                if (isOut(cells[f])) {
                    outside++;
                }
            }
            return outside;
        }

        int nextCell(int kind, int cell, int m) {
            int ofYear = m % YEAR;
            return Drift.cellBy(kind, cell, m, ways[ofYear], strengths[ofYear]);
        }

        int cellBehind(int f, int months) {
            return drifted(kinds[f], cells[f], month, months);
        }

        private int drifted(int kind, int firstCell, int firstMonth, int months) {
            int cell = firstCell;
            for (int i = 0; i < months; i++) {
                cell = nextCell(kind, cell, firstMonth + i);
            }
            return cell;
        }

        int foodBehind(int f, int months) {
            return Math.max(0, foods[f] - months);
        }

        int firstOut(int kind, int firstCell) {
            int cell = firstCell;
            for (int i = 0; i <= AHEAD; i++) {
                if (isOut(cell)) {
                    return i;
                }
                cell = nextCell(kind, cell, month + i);
            }
            return NONE;
        }

        int cellBySeed(int f, int seed, int months) {
            int cell = cells[f];
            long x = seed;
            for (int i = 0; i < months; i++) {
                x = (x * 1103515245L + 12345L) % 2147483648L;
                int way = (int) (x / 65536 % 4);
                int strength = (int) (x / 1048576 % 4);
                cell = Drift.cellBy(kinds[f], cell, month + i, way, strength);
            }
            return cell;
        }

        boolean allFoundFrom(int cell) {
            for (int i = 0; i < founds; i++) {
                int at = FOUND_SIZE * i;
                if (drifted(foundRows[at], cell, 0, foundRows[at + 1]) != foundRows[at + 2]) {
                    return false;
                }
            }
            return true;
        }

        int kindsByNotes(int f) {
            int fitting = 0;
            for (int kind = 0; kind < KINDS; kind++) {
                if (allNotesBy(kind, f)) {
                    fitting |= 1 << kind;
                }
            }
            return fitting;
        }

        private boolean allNotesBy(int kind, int f) {
            for (int i = 0; i < notes; i++) {
                if (noteRows[NOTE_SIZE * i] == f && !noteBy(kind, NOTE_SIZE * i)) {
                    return false;
                }
            }
            return true;
        }

        private boolean noteBy(int kind, int at) {
            int m = noteRows[at + 1];
            int w = noteRows[at + 2];
            int s = noteRows[at + 3];
            int c = noteRows[at + 4];
            int y = noteRows[at + 5];
            int n = noteRows[at + 6];
            return Drift.cellsOf(kind, s, c) == n && (n == 0 || Drift.wayOf(kind, m, w) == y);
        }

        /** Of the KINDS in the bits, how many drift alike at the most by the wind of MONTH m. */
        int mostAlike(int bits, int m, int column) {
            int most = 0;
            for (int kind = 0; kind < KINDS; kind++) {
                if ((bits >> kind & 1) == 1) {
                    most = Math.max(most, alikeTo(kind, bits, m, column));
                }
            }
            return most;
        }

        private int alikeTo(int kind, int bits, int m, int column) {
            int way = ways[m % YEAR];
            int strength = strengths[m % YEAR];
            int track = Drift.tracks(kind, m, way, strength, column);
            int alike = 0;
            for (int other = 0; other < KINDS; other++) {
                if ((bits >> other & 1) == 1 && Drift.tracks(other, m, way, strength, column) == track) {
                    alike++;
                }
            }
            return alike;
        }

        /** WINDS, FLOES, FOUND, NOTES, in the order in which the document tells the digest. */
        long foldInto(long first) {
            long h = first;
            for (int m = 0; m < YEAR; m++) {
                h = 31 * (31 * h + ways[m]) + strengths[m];
            }
            for (int f = 0; f < floes; f++) {
                h = 31 * (31 * (31 * h + kinds[f]) + cells[f]) + foods[f];
            }
            h = foldRow(h, foundRows, FOUND_SIZE * founds);
            return foldRow(h, noteRows, NOTE_SIZE * notes);
        }

        private static long foldRow(long first, int[] row, int length) {
            long h = first;
            for (int i = 0; i < length; i++) {
                h = 31 * h + row[i];
            }
            return h;
        }
    }

    /** THE TEXT, and how a SEA is read from it. */
    private static final class Text {
        private final int[] bytes = new int[MOST_BYTES];
        int length;
        private int place;
        private int fault;

        void add(int c) {
            bytes[length] = c;
            length++;
        }

        void empty() {
            length = 0;
        }

        /** How many ITEMS; -10 less the FAULT, and what the sea holds then is worth nothing. */
        int readInto(Sea sea) {
            place = 0;
            fault = NONE;
            readSea(sea);
            int items = 1;
            skipBlanks();
            while (fault == NONE && place < length && items <= MOST_BYTES) {
                readItem(sea);
                items++;
                skipBlanks();
            }
            return fault == NONE ? items : READ_FAULT - fault;
        }

        private void readSea(Sea sea) {
            skipBlanks();
            if (!takeWord("sea")) {
                fail();
            }
            int month = takeNumber(LAST_FIRST_MONTH);
            takeEnd();
            sea.begin(month);
        }

        private void readItem(Sea sea) {
            if (takeWord("wind")) {
                readWind(sea);
            } else if (sea.floes < MOST_FLOES && takeWord("floe")) {
                readFloe(sea);
            } else {
                fail();
            }
        }

        private void readWind(Sea sea) {
            int m = takeNumber(YEAR - 1);
            int way = takeNumber(WAYS - 1);
            int strength = takeNumber(MOST_STRENGTH);
            takeEnd();
            sea.tellWind(m, way, strength);
        }

        private void readFloe(Sea sea) {
            int kind = takeNumber(KINDS - 1);
            int cell = takeNumber(CELLS - 1);
            int food = takeNumber(MOST_FOOD_AT_FIRST);
            takeEnd();
            sea.addFloe(kind, cell, food);
        }

        private void fail() {
            if (fault == NONE) {
                fault = place;
            }
        }

        private void skipBlanks() {
            while (place < length && bytes[place] == ' ') {
                place++;
            }
        }

        /** At a word's first byte: goes behind it, if it is just this one. */
        private boolean takeWord(String word) {
            int size = word.length();
            if (runOf('a', 'z') != size) {
                return false;
            }
            for (int i = 0; i < size; i++) {
                if (bytes[place + i] != word.charAt(i)) {
                    return false;
                }
            }
            place += size;
            return true;
        }

        /** A number of 0 .. most; 0 behind a FAULT. */
        private int takeNumber(int most) {
            skipBlanks();
            int size = runOf('0', '9');
            int number = size == 1 || size == 2 ? numberOf(size) : most + 1;
            if (fault != NONE || number > most) {
                fail();
                return 0;
            }
            place += size;
            return number;
        }

        private int numberOf(int size) {
            int number = 0;
            for (int i = 0; i < size; i++) {
                number = 10 * number + bytes[place + i] - '0';
            }
            return number;
        }

        private void takeEnd() {
            skipBlanks();
            if (fault == NONE && place < length && bytes[place] == ';') {
                place++;
            } else {
                fail();
            }
        }

        /** How many bytes of first .. last follow one another from the place on. */
        private int runOf(int first, int last) {
            int size = 0;
            while (place + size < length && bytes[place + size] >= first && bytes[place + size] <= last) {
                size++;
            }
            return size;
        }
    }
}
