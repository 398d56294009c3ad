/** Mud at low water: a shore of eight cells, its tide, stairs, barge, and what drifts there. */
public final class LowWater {
    public static final int NONE = -1, UNKNOWN = -101, OUTSIDE = -102, STATE = -103, FULL = -104;

    private static final int CELLS = 8;
    private static final int KINDS = 5;
    private static final int CORK = 1;
    private static final int BOTTLE = 4;
    private static final int MOST_LETTERS = 32;
    private static final int MOST_HEIGHTS = 12;
    private static final int LEAST_HEIGHTS = 2;
    private static final int HIGHEST = 9;
    private static final int MOST_THINGS = 8;
    private static final int MOST_WORTH = 50;
    private static final int MOST_MARKS = 8;
    private static final int LAST_TOLD_HOUR = 99;
    private static final int MOST_WALKED = 7;
    private static final int MOST_BESTS = 40;
    private static final int MOST_BACK = 12;
    private static final int MOST_DAYS = 60;

    /** Places of a THING beside the CELLS. */
    private static final int TAKEN = -1;
    private static final int OUT = -2;

    /** By KIND: how many CELLS one drifts in an hour. */
    private static final int[] FLOOD_REACH = {1, 2, 0, 0, 3};
    private static final int[] EBB_REACH = {1, 2, 1, 0, 3};

    private final Page page = new Page();
    private final Shore ground = new Shore();
    private final Scene now = new Scene();
    private final Scene kept = new Scene();
    private final Scene trial = new Scene();
    private final Draws draws = new Draws();
    private final Child child = new Child();
    private int shoresRead = 0;
    private int bestsDone = 0;

    /** At which reading of a SHORE the IMAGE was kept; 0: none was kept. */
    private int keptAtShore = 0;

    public LowWater() {
    }

    // ---- the shore

    public int letters(long w) {
        int told = Page.lettersIn(w);
        if (told == NONE) {
            return OUTSIDE;
        }
        if (page.size + told > MOST_LETTERS) {
            return FULL;
        }
        page.append(w, told);
        return page.size;
    }

    public int blank() {
        int had = page.size;
        page.size = 0;
        return had;
    }

    public int fault() {
        return page.faultPlace();
    }

    public int shore() {
        if (!page.isShore()) {
            return STATE;
        }
        ground.readFrom(page);
        now.clear();
        page.size = 0;
        shoresRead++;
        return ground.heightCount;
    }

    public int cell(int cell, int what) {
        if (!isCell(cell)) {
            return UNKNOWN;
        }
        if (what < 0 || what > 3) {
            return OUTSIDE;
        }
        if (!hasShore()) {
            return STATE;
        }
        switch (what) {
            case 0:
                return ground.levels[cell];
            case 1:
                return ground.hasStair(cell) ? 1 : 0;
            case 2:
                return isDryNow(cell) ? 1 : 0;
            default:
                return now.countIn(cell);
        }
    }

    public int tide(int hours) {
        if (hours < 0 || hours > LAST_TOLD_HOUR) {
            return OUTSIDE;
        }
        if (!hasShore()) {
            return STATE;
        }
        return ground.heightIn(now.hour + hours);
    }

    public int barge(int cell) {
        if (cell != NONE && !isCell(cell)) {
            return UNKNOWN;
        }
        if (!hasShore()) {
            return STATE;
        }
        int before = now.barge;
        now.barge = cell;
        return before;
    }

    public int hour() {
        if (!hasShore()) {
            return STATE;
        }
        return now.goOn(ground);
    }

    // ---- things

    public int thing(int kind, int cell, int worth) {
        if (!isCell(cell)) {
            return UNKNOWN;
        }
        if (!isKind(kind) || worth < 1 || worth > MOST_WORTH) {
            return OUTSIDE;
        }
        if (!hasShore()) {
            return STATE;
        }
        return now.addThing(kind, cell, worth);
    }

    public int about(int thing, int what) {
        if (!now.isThing(thing)) {
            return UNKNOWN;
        }
        switch (what) {
            case 0:
                return now.kinds[thing];
            case 1:
                return now.places[thing];
            case 2:
                return now.worths[thing];
            case 3:
                return ground.nearestStair(now.places[thing], NONE);
            default:
                return OUTSIDE;
        }
    }

    public int as(int thing, int kind) {
        if (!now.isThing(thing)) {
            return UNKNOWN;
        }
        if (!isKind(kind)) {
            return OUTSIDE;
        }
        return isOfKind(now.kinds[thing], kind) ? thing : NONE;
    }

    public int take(int cell) {
        if (!isCell(cell)) {
            return UNKNOWN;
        }
        if (!hasShore() || !isDryNow(cell)) {
            return STATE;
        }
        return now.takeAllIn(cell);
    }

    public int share(int cell) {
        if (!isCell(cell) || !ground.hasStair(cell)) {
            return UNKNOWN;
        }
        return now.worthBelonging(ground, cell, NONE);
    }

    // ---- what would be

    public int best(int cell, int hours, int what) {
        if (!isCell(cell)) {
            return UNKNOWN;
        }
        if (hours < 0 || hours > MOST_WALKED || what < 0 || what > 1) {
            return OUTSIDE;
        }
        if (!hasShore() || bestsDone >= MOST_BESTS) {
            return STATE;
        }
        bestsDone++;
        trial.copyFrom(now);
        child.lookAhead(trial, ground, hours);
        int most = child.bestFrom(cell);
        return what == 0 ? most : child.first;
    }

    public int whence(int kind, int cell, int hours) {
        if (!isKind(kind)) {
            return OUTSIDE;
        }
        if (!isCell(cell)) {
            return UNKNOWN;
        }
        if (hours < 1 || hours > MOST_BACK) {
            return OUTSIDE;
        }
        if (!hasShore() || hours > now.hour) {
            return STATE;
        }
        int bits = 0;
        for (int from = 0; from < CELLS; from++) {
            if (placeNow(kind, from, hours) == cell) {
                bits |= 1 << from;
            }
        }
        return bits;
    }

    public int uncovered(int cell) {
        if (cell != NONE && !isCell(cell)) {
            return UNKNOWN;
        }
        if (!hasShore()) {
            return STATE;
        }
        int bits = 0;
        for (int c = 0; c < CELLS; c++) {
            if (!isDryNow(c) && ground.isDry(c, now.hour, cell)) {
                bits |= 1 << c;
            }
        }
        return bits;
    }

    public int bell(int height) {
        if (height < 0 || height > HIGHEST) {
            return OUTSIDE;
        }
        if (!hasShore()) {
            return STATE;
        }
        for (int hours = 0; hours < ground.heightCount; hours++) {
            if (ground.heightIn(now.hour + hours) >= height) {
                return hours;
            }
        }
        return NONE;
    }

    public int newStair() {
        if (!hasShore()) {
            return STATE;
        }
        int where = NONE;
        int most = NONE;
        for (int c = 0; c < CELLS; c++) {
            int worth = ground.hasStair(c) ? NONE : now.worthBelonging(ground, c, c);
            if (worth > most) {
                most = worth;
                where = c;
            }
        }
        return where;
    }

    // ---- marks

    public int mark(int hour, int cell) {
        if (hour < 0 || hour > LAST_TOLD_HOUR) {
            return OUTSIDE;
        }
        if (!isCell(cell)) {
            return UNKNOWN;
        }
        if (!hasShore()) {
            return STATE;
        }
        int before = now.markCount;
        now.beginMarks(hour, cell);
        return before;
    }

    public int then(int cell) {
        if (now.markCount == 0) {
            return STATE;
        }
        if (cell != OUT && !isCell(cell)) {
            return UNKNOWN;
        }
        return now.addMark(cell);
    }

    public int fits() {
        if (now.markCount == 0) {
            return STATE;
        }
        int bits = 0;
        for (int kind = 0; kind < KINDS; kind++) {
            if (now.couldBe(kind, ground)) {
                bits |= 1 << kind;
            }
        }
        return bits;
    }

    public int days(int hours, int seed, int what) {
        if (hours < 1 || hours > MOST_DAYS || seed < 0 || what < 0 || what > 3) {
            return OUTSIDE;
        }
        if (!hasShore()) {
            return STATE;
        }
        trial.copyFrom(now);
        draws.seed = seed;
        for (int i = 0; i < hours; i++) {
            trial.takeByDraw(draws, ground);
            trial.goOn(ground);
        }
        switch (what) {
            case 0:
                return trial.worthTaken();
            case 1:
                return trial.countIn(OUT);
            case 2:
                return trial.cellsTogether();
            default:
                return (int) draws.seed;
        }
    }

    // ---- what is told of all

    public int image() {
        if (!hasShore()) {
            return STATE;
        }
        kept.copyFrom(now);
        keptAtShore = shoresRead;
        return kept.hour;
    }

    public int restore() {
        if (keptAtShore == 0 || keptAtShore != shoresRead || kept.thingCount != now.thingCount) {
            return STATE;
        }
        now.copyFrom(kept);
        return now.hour;
    }

    public int count(int what) {
        switch (what) {
            case 0:
                return now.thingCount;
            case 1:
                return now.hour;
            case 2:
                return ground.stairCount();
            case 3:
                return ground.heightCount;
            case 4:
                return now.countInCells();
            case 5:
                return now.worthTaken();
            case 6:
                return now.markCount;
            case 7:
                return page.size;
            case 8:
                return shoresRead;
            case 9:
                return bestsDone;
            default:
                return OUTSIDE;
        }
    }

    public long digest() {
        long h = 691;
        if (hasShore()) {
            h = shoreDigest(h);
        }
        for (int t = 0; t < now.thingCount; t++) {
            for (int what = 0; what < 4; what++) {
                h = 31 * h + about(t, what);
            }
        }
        if (now.markCount > 0) {
            h = 31 * h + fits();
        }
        for (int i = 0; i < page.size; i++) {
            h = 31 * h + page.letters[i];
        }
        for (int what = 0; what < 10; what++) {
            h = 31 * h + count(what);
        }
        return h;
    }

    private long shoreDigest(long begun) {
        long h = begun;
        for (int c = 0; c < CELLS; c++) {
            for (int what = 0; what < 4; what++) {
                h = 31 * h + cell(c, what);
            }
        }
        for (int i = 0; i < ground.heightCount; i++) {
            h = 31 * h + ground.heights[i];
        }
        h = 31 * h + now.barge;
        return 31 * h + newStair();
    }

    private boolean hasShore() {
        return shoresRead > 0;
    }

    private boolean isDryNow(int cell) {
        return ground.isDry(cell, now.hour, now.barge);
    }

    /** Where one of a KIND lies now that lay in a CELL so many hours ago. */
    private int placeNow(int kind, int from, int hours) {
        int place = from;
        for (int hour = now.hour - hours; hour < now.hour; hour++) {
            place = ground.drifted(kind, place, hour, now.barge);
        }
        return place;
    }

    private static boolean isCell(int number) {
        return number >= 0 && number < CELLS;
    }

    private static boolean isKind(int number) {
        return number >= 0 && number < KINDS;
    }

    private static boolean isOfKind(int kind, int asked) {
        return asked == 0 || asked == kind || asked == CORK && kind == BOTTLE;
    }

    /** THE PAGE, of which a SHORE is read. */
    private static final class Page {
        private static final int BYTES = 8;
        private static final int HIGHEST_LETTER = 126;

        final char[] letters = new char[MOST_LETTERS];
        int size = 0;

        /** How many letters are told by a word; NONE: they are not as told. */
        static int lettersIn(long w) {
            int told = 0;
            boolean ended = false;
            for (int i = 0; i < BYTES; i++) {
                int code = letterOf(w, i);
                if (code > HIGHEST_LETTER || ended && code != 0) {
                    return NONE;
                }
                if (code == 0) {
                    ended = true;
                } else {
                    told++;
                }
            }
            return told;
        }

        void append(long w, int told) {
            for (int i = 0; i < told && size < MOST_LETTERS; i++) {
                letters[size] = (char) letterOf(w, i);
                size++;
            }
        }

        int faultPlace() {
            int stairs = 0;
            int heightsBehind = NONE;
            for (int i = 0; i < size; i++) {
                char letter = letters[i];
                boolean good;
                if (i < CELLS) {
                    good = isDigit(letter);
                } else if (i == CELLS) {
                    good = letter == ';';
                } else if (heightsBehind != NONE) {
                    good = isDigit(letter) && i - heightsBehind <= MOST_HEIGHTS;
                } else if (letter == ';') {
                    good = stairs != 0;
                    heightsBehind = i;
                } else {
                    good = isNewStair(letter, stairs);
                    stairs |= stairBit(letter);
                }
                if (!good) {
                    return i;
                }
            }
            return size;
        }

        boolean isShore() {
            int behind = heightsBehind();
            return behind != NONE && size - 1 - behind >= LEAST_HEIGHTS && faultPlace() == size;
        }

        /** The place of the second ';'; NONE: there is none. */
        int heightsBehind() {
            for (int i = CELLS + 1; i < size; i++) {
                if (letters[i] == ';') {
                    return i;
                }
            }
            return NONE;
        }

        private static int letterOf(long w, int place) {
            return (int) (w >>> 8 * place & 255);
        }

        private static boolean isDigit(char letter) {
            return letter >= '0' && letter <= '9';
        }

        private static boolean isNewStair(char letter, int stairs) {
            int bit = stairBit(letter);
            return bit != 0 && (stairs & bit) == 0;
        }

        /** 0: the letter tells no CELL. */
        private static int stairBit(char letter) {
            return isCell(letter - '0') ? 1 << letter - '0' : 0;
        }
    }

    /** THE SHORE: LEVELS, STAIRS, THE TIDE. */
    private static final class Shore {
        final int[] levels = new int[CELLS];
        final int[] heights = new int[MOST_HEIGHTS];
        int heightCount = 0;

        /** The CELLS with STAIRS, as bits. */
        private int stairs = 0;

        /** The page must be a SHORE. */
        void readFrom(Page page) {
            int behind = page.heightsBehind();
            for (int c = 0; c < CELLS; c++) {
                levels[c] = page.letters[c] - '0';
            }
            stairs = 0;
            for (int i = CELLS + 1; i < behind; i++) {
                stairs |= 1 << page.letters[i] - '0';
            }
            heightCount = 0;
            for (int i = behind + 1; i < page.size && heightCount < MOST_HEIGHTS; i++) {
                heights[heightCount] = page.letters[i] - '0';
                heightCount++;
            }
        }

        boolean hasStair(int cell) {
            return isCell(cell) && (stairs >> cell & 1) == 1;
        }

        int stairCount() {
            return Integer.bitCount(stairs);
        }

        int heightIn(int hour) {
            if (heightCount <= 0) {
                return 0;
            }
            return heights[Math.floorMod(hour, heightCount)];
        }

        boolean isDry(int cell, int hour, int barge) {
            return isCell(cell) && heightIn(hour) <= levelUnder(cell, barge);
        }

        private int levelUnder(int cell, int barge) {
            int less = 0;
            if (barge == cell) {
                less = 2;
            } else if (barge != NONE && Math.abs(barge - cell) == 1) {
                less = 1;
            }
            return Math.max(0, levels[cell] - less);
        }

        /** Where one of a KIND that lies in a place in an hour lies in the next hour. */
        int drifted(int kind, int place, int hour, int barge) {
            if (!isKind(kind) || !isCell(place) || isDry(place, hour, barge)) {
                return place;
            }
            int height = heightIn(hour);
            int next = heightIn(hour + 1);
            if (next > height) {
                return carried(place, 1, FLOOD_REACH[kind], hour + 1, barge);
            }
            if (next < height) {
                return carried(place, -1, EBB_REACH[kind], hour + 1, barge);
            }
            return place;
        }

        private int carried(int from, int way, int reach, int nextHour, int barge) {
            int place = from;
            for (int i = 0; i < reach; i++) {
                int to = place + way;
                if (to < 0) {
                    return OUT;
                }
                if (to >= CELLS) {
                    return place;
                }
                place = to;
                if (isDry(place, nextHour, barge)) {
                    return place;
                }
            }
            return place;
        }

        /** The nearest STAIR to a place, were there one more STAIR (NONE: no more). */
        int nearestStair(int place, int oneMore) {
            if (!isCell(place)) {
                return NONE;
            }
            int nearest = NONE;
            int least = CELLS;
            for (int c = 0; c < CELLS; c++) {
                int distance = Math.abs(c - place);
                if ((hasStair(c) || c == oneMore) && distance < least) {
                    least = distance;
                    nearest = c;
                }
            }
            return nearest;
        }
    }

    /** What an IMAGE keeps: THINGS, THE BARGE, the hour, MARKS. */
    private static final class Scene {
        final int[] kinds = new int[MOST_THINGS];
        final int[] places = new int[MOST_THINGS];
        final int[] worths = new int[MOST_THINGS];
        int thingCount = 0;
        int barge = NONE;
        int hour = 0;
        int markCount = 0;
        private final int[] marks = new int[MOST_MARKS];
        private int markHour = 0;

        void clear() {
            thingCount = 0;
            barge = NONE;
            hour = 0;
            markCount = 0;
        }

        void copyFrom(Scene other) {
            System.arraycopy(other.kinds, 0, kinds, 0, MOST_THINGS);
            System.arraycopy(other.places, 0, places, 0, MOST_THINGS);
            System.arraycopy(other.worths, 0, worths, 0, MOST_THINGS);
            System.arraycopy(other.marks, 0, marks, 0, MOST_MARKS);
            thingCount = other.thingCount;
            barge = other.barge;
            hour = other.hour;
            markCount = other.markCount;
            markHour = other.markHour;
        }

        boolean isThing(int number) {
            return number >= 0 && number < thingCount;
        }

        int addThing(int kind, int cell, int worth) {
            if (thingCount >= MOST_THINGS) {
                return FULL;
            }
            int number = thingCount;
            kinds[number] = kind;
            places[number] = cell;
            worths[number] = worth;
            thingCount++;
            return number;
        }

        /** AN HOUR goes by: how many THINGS it moves. */
        int goOn(Shore shore) {
            int moved = 0;
            for (int t = 0; t < thingCount; t++) {
                int place = shore.drifted(kinds[t], places[t], hour, barge);
                if (place != places[t]) {
                    moved++;
                }
                places[t] = place;
            }
            hour++;
            return moved;
        }

        int countIn(int place) {
            int many = 0;
            for (int t = 0; t < thingCount; t++) {
                if (places[t] == place) {
                    many++;
                }
            }
            return many;
        }

        int countInCells() {
            return thingCount - countIn(TAKEN) - countIn(OUT);
        }

        int takeAllIn(int cell) {
            int worth = 0;
            for (int t = 0; t < thingCount; t++) {
                if (places[t] == cell) {
                    worth += worths[t];
                    places[t] = TAKEN;
                }
            }
            return worth;
        }

        void takeByDraw(Draws draws, Shore shore) {
            if (thingCount == 0 || draws.next(4) != 0) {
                return;
            }
            int t = draws.next(thingCount);
            if (isThing(t) && shore.isDry(places[t], hour, barge)) {
                places[t] = TAKEN;
            }
        }

        int worthTaken() {
            int worth = 0;
            for (int t = 0; t < thingCount; t++) {
                if (places[t] == TAKEN) {
                    worth += worths[t];
                }
            }
            return worth;
        }

        int cellsTogether() {
            int sum = 0;
            for (int t = 0; t < thingCount; t++) {
                if (isCell(places[t])) {
                    sum += places[t];
                }
            }
            return sum;
        }

        /** What belongs to a STAIR is worth, were there one more STAIR (NONE: no more). */
        int worthBelonging(Shore shore, int stair, int oneMore) {
            int worth = 0;
            for (int t = 0; t < thingCount; t++) {
                if (shore.nearestStair(places[t], oneMore) == stair) {
                    worth += worths[t];
                }
            }
            return worth;
        }

        void beginMarks(int firstHour, int cell) {
            markHour = firstHour;
            marks[0] = cell;
            markCount = 1;
        }

        int addMark(int place) {
            if (markCount >= MOST_MARKS) {
                return FULL;
            }
            marks[markCount] = place;
            markCount++;
            return markCount;
        }

        boolean couldBe(int kind, Shore shore) {
            for (int i = 1; i < markCount; i++) {
                if (shore.drifted(kind, marks[i - 1], markHour + i - 1, barge) != marks[i]) {
                    return false;
                }
            }
            return true;
        }
    }

    /** DRAWS by a SEED. */
    private static final class Draws {
        private static final long FACTOR = 1103515245L;
        private static final long ADDED = 12345L;
        private static final long SEEDS = 1L << 31;
        private static final long PART = 65536L;

        long seed = 0;

        int next(int of) {
            seed = (FACTOR * seed + ADDED) % SEEDS;
            return of > 0 ? (int) (seed / PART % of) : 0;
        }
    }

    /** A child's ways over dry mud. */
    private static final class Child {
        private static final int ROWS = MOST_WALKED + 1;

        /** By hour and CELL: which THINGS lie there, as bits, and whether it is DRY. */
        private final int[] lying = new int[ROWS * CELLS];
        private final boolean[] dry = new boolean[ROWS * CELLS];
        private final boolean[] stairs = new boolean[CELLS];
        private final int[] worths = new int[MOST_THINGS];
        private int last = 0;

        /** The CELL to which the best way goes first. */
        int first = NONE;

        /** Lets the hours of a trial go by. */
        void lookAhead(Scene trial, Shore shore, int hours) {
            last = Math.max(0, Math.min(hours, MOST_WALKED));
            System.arraycopy(trial.worths, 0, worths, 0, MOST_THINGS);
            for (int c = 0; c < CELLS; c++) {
                stairs[c] = shore.hasStair(c);
            }
            for (int h = 0; h <= last; h++) {
                look(h * CELLS, trial, shore);
                trial.goOn(shore);
            }
        }

        private void look(int row, Scene trial, Shore shore) {
            for (int c = 0; c < CELLS; c++) {
                lying[row + c] = 0;
                dry[row + c] = shore.isDry(c, trial.hour, trial.barge);
            }
            for (int t = 0; t < trial.thingCount; t++) {
                if (isCell(trial.places[t])) {
                    lying[row + trial.places[t]] |= 1 << t;
                }
            }
        }

        /** The most WORTH, by what was seen ahead; NONE: it can't go. */
        int bestFrom(int cell) {
            first = NONE;
            if (!isCell(cell) || !stairs[cell] || !dry[cell]) {
                return NONE;
            }
            if (last == 0) {
                first = cell;
                return worthOf(lying[cell]);
            }
            int most = NONE;
            for (int to = cell - 1; to <= cell + 1; to++) {
                int worth = walked(this, 1, to, lying[cell]);
                if (worth > most) {
                    most = worth;
                    first = to;
                }
            }
            return most;
        }

        /** Each call is an hour later, so the last hour (7 at most) bounds the depth. */
        private static int walked(Child child, int hour, int cell, int takenBefore) {
            if (hour < 0 || hour > child.last || !isCell(cell) || !child.dry[hour * CELLS + cell]) {
                return NONE;
            }
            int taken = takenBefore | child.lying[hour * CELLS + cell];
            if (hour == child.last) {
                return child.stairs[cell] ? child.worthOf(taken) : NONE;
            }
            int most = NONE;
            for (int to = cell - 1; to <= cell + 1; to++) {
                most = Math.max(most, walked(child, hour + 1, to, taken));
            }
            return most;
        }

        private int worthOf(int things) {
            int worth = 0;
            for (int t = 0; t < MOST_THINGS; t++) {
                if ((things >> t & 1) == 1) {
                    worth += worths[t];
                }
            }
            return worth;
        }
    }
}
