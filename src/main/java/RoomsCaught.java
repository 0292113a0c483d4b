/** Halls taken by sweeps from places that are only half known; README.md says how to use it. */
public final class RoomsCaught {
    public static final int NONE = -1, UNKNOWN = -2, OUTSIDE = -3, NOT = -4, FULL = -5;

    private static final int SIDE = 8, CELLS = 64, TURNS = 4;
    private static final int MOST_SWEEPS = 8, MOST_HITS = 16, REACH = 7, MOST_MARK = 9;
    private static final int UNSEEN = 0, EMPTY = 1, HIT = 2, GHOST = 3, KINDS = 4;
    private static final int NEED = 0, MISS = 1, PRICE = 2;
    private static final int MOST_BYTES = 160, MOST_LINES = 10, BYTES_AT_ONCE = 8;
    private static final int MOST_CATCHES = 3, MOST_MOVED = 6, BEYOND_ALL_MOVES = 1000;
    private static final int SPOTS = 8, MOST_JOINS = 12, MOST_BY = 99, MOST_WEIGHT = 50, MOST_ROW = 8;
    private static final int MOST_LENGTHS = 20, LONGEST = 999;
    private static final int NO_FRACTION = 0x80000000;
    private static final long LEFT_SIDE = 0x0101010101010101L, RIGHT_SIDE = 0x8080808080808080L;
    private static final long BORDER = 0xFF818181818181FFL;

    private final Hall hall = new Hall();
    private final int[] limits = {3, 0, 0};
    private final Text text = new Text();
    private Thing thing = new Thing();
    private Thing draft = new Thing();
    private final Catches catches = new Catches();
    private final Joins joins = new Joins();
    private final Row row = new Row();
    private final Lengths lengths = new Lengths();

    public RoomsCaught() {
    }

    // ---- sweeps

    public int sweep() {
        return hall.addSweep();
    }

    public int hit(int sweep, int x, int y, int mark) {
        Sweep one = hall.sweepAt(sweep);
        if (one == null) {
            return UNKNOWN;
        }
        boolean isMiddle = x == 0 && y == 0;
        if (isMiddle || !isWithin(x, -REACH, REACH) || !isWithin(y, -REACH, REACH) || !isWithin(mark, 0, MOST_MARK)) {
            return OUTSIDE;
        }
        if (one.stands || one.hasHitAt(x, y)) {
            return NOT;
        }
        return one.addHit(x, y, mark);
    }

    public int stand(int sweep, int cell, int turn) {
        Sweep one = hall.sweepAt(sweep);
        if (one == null || !isCell(cell)) {
            return UNKNOWN;
        }
        if (!isTurn(turn)) {
            return OUTSIDE;
        }
        return one.stands ? NOT : hall.place(one, cell, turn);
    }

    public int part(int sweep) {
        Sweep one = hall.sweepAt(sweep);
        if (one == null) {
            return UNKNOWN;
        }
        return one.stands ? hall.remove(one) : NOT;
    }

    public int set(int what, int v) {
        if (!isWithin(what, NEED, PRICE) || !isWithin(v, 0, what == PRICE ? MOST_LINES : MOST_HITS)) {
            return OUTSIDE;
        }
        int was = limits[what];
        limits[what] = v;
        return was;
    }

    public int way(int sweep, int i) {
        Sweep one = hall.sweepAt(sweep);
        if (one == null) {
            return UNKNOWN;
        }
        if (i < -1) {
            return OUTSIDE;
        }
        return one.stands ? NOT : hall.findWay(one, i, limits[NEED], limits[MISS]);
    }

    public int fits(int sweep, int cell, int turn, int what) {
        Sweep one = hall.sweepAt(sweep);
        if (one == null || !isCell(cell)) {
            return UNKNOWN;
        }
        if (!isTurn(turn) || !isWithin(what, 0, 1)) {
            return OUTSIDE;
        }
        if (one.stands) {
            return NOT;
        }
        if (!hall.tryOut(one, cell, turn)) {
            return NONE;
        }
        return what == 0 ? hall.catchesOfTrial() : hall.quarrelsOfTrial();
    }

    public int bars(int sweep, int cell, int turn) {
        Sweep one = hall.sweepAt(sweep);
        if (one == null || !isCell(cell)) {
            return UNKNOWN;
        }
        if (!isTurn(turn)) {
            return OUTSIDE;
        }
        if (one.stands) {
            return NOT;
        }
        return hall.tryOut(one, cell, turn) ? hall.barsOfTrial(limits[MISS]) : 0;
    }

    // ---- what is there

    public int cell(int cell) {
        return isCell(cell) ? hall.kindOf(cell) : UNKNOWN;
    }

    public long cells(int what) {
        return hall.allOf(what);
    }

    public int lead(int cell, int what) {
        if (!isCell(cell)) {
            return UNKNOWN;
        }
        return isWithin(what, 0, 1) ? hall.leadTo(cell, what == 1) : OUTSIDE;
    }

    public int wall(int i) {
        return i < -1 ? OUTSIDE : hall.plan.findWall(i);
    }

    public long corners() {
        return hall.plan.allCorners();
    }

    public long doors() {
        return hall.plan.doorCells;
    }

    public int room(int cell) {
        return isCell(cell) ? hall.plan.roomOf(cell) : UNKNOWN;
    }

    public long rooms(int room) {
        return hall.plan.cellsOfRoom(room);
    }

    public int away(int one, int two) {
        Plan plan = hall.plan;
        return plan.isRoom(one) && plan.isRoom(two) ? plan.doorsBetween(one, two) : UNKNOWN;
    }

    // ---- things

    public int write(long bytes, int n) {
        return isWithin(n, 1, BYTES_AT_ONCE) ? text.append(bytes, n) : OUTSIDE;
    }

    public int erase() {
        return text.clear();
    }

    public int fault() {
        return text.readInto(draft);
    }

    public int thing() {
        if (text.readInto(draft) != NONE) {
            return NOT;
        }
        Thing old = thing;
        thing = draft;
        draft = old;
        text.clear();
        return thing.lines;
    }

    public int fit(int i) {
        if (i < -1) {
            return OUTSIDE;
        }
        // A text without a fault has a line at least, so a thing without lines is none.
        return thing.lines == 0 ? NOT : thing.findFit(hall, i, limits[PRICE]);
    }

    // ---- years, places

    public int keep(int k) {
        return isCatch(k) ? catches.store(hall, k) : UNKNOWN;
    }

    public long since(int one, int two, int what) {
        return isCatch(one) && isCatch(two) ? catches.changed(one, two, what) : 0;
    }

    public int moved(int one, int two, int what) {
        if (!isCatch(one) || !isCatch(two)) {
            return UNKNOWN;
        }
        if (!isWithin(what, 0, 1)) {
            return OUTSIDE;
        }
        return catches.pairs(one, two, what == 1);
    }

    public int see(int from, int to) {
        if (!isCell(from) || !isCell(to)) {
            return UNKNOWN;
        }
        if (has(hall.hits, from)) {
            return NOT;
        }
        return has(hiddenFrom(from, hall.hits), to) ? 0 : 1;
    }

    public int next(long asked, long places) {
        long wanted = asked & hall.allOf(UNSEEN);
        int best = NONE;
        int most = -1;
        for (int place = 0; place < CELLS; place++) {
            if (has(places & ~hall.hits, place)) {
                int seen = Long.bitCount(wanted & ~hiddenFrom(place, hall.hits));
                if (seen > most) {
                    most = seen;
                    best = place;
                }
            }
        }
        return best;
    }

    // ---- joins, lengths

    public int join(int a, int b, int v, int weight) {
        if (!isSpot(a) || !isSpot(b) || a == b) {
            return UNKNOWN;
        }
        if (!isWithin(v, -MOST_BY, MOST_BY) || !isWithin(weight, 1, MOST_WEIGHT)) {
            return OUTSIDE;
        }
        return joins.tell(a, b, v, weight);
    }

    public int agrees(int set) {
        if ((set & -(1 << joins.told)) != 0) {
            return OUTSIDE;
        }
        return joins.isAtPeace(set) ? 1 : 0;
    }

    public int kept() {
        return joins.bestSet();
    }

    public int loop(int join, boolean isBack) {
        return joins.isJoin(join) ? row.append(joins, join, isBack) : UNKNOWN;
    }

    public int unloop() {
        return row.clear();
    }

    public int spread(int i, int part) {
        if (!isWithin(i, -1, row.size - 1) || !isWithin(part, 0, 1) || !row.isClosed(joins)) {
            return NO_FRACTION;
        }
        if (i == -1) {
            return part == 0 ? row.missOf(joins) : 1;
        }
        return row.spreadPart(joins, i, part == 0);
    }

    public int length(int lo, int hi, int truly) {
        boolean isSpan = isWithin(lo, 0, LONGEST) && isWithin(hi, lo, LONGEST);
        return isSpan && isWithin(truly, -1, LONGEST) ? lengths.tell(lo, hi, truly) : OUTSIDE;
    }

    public int held(int what) {
        if (!isWithin(what, 0, 1)) {
            return OUTSIDE;
        }
        return what == 0 ? lengths.holdingWith(0) : lengths.trueOnes;
    }

    public int span(int hundredths) {
        return isWithin(hundredths, 0, 100) ? lengths.leastSpan(hundredths) : OUTSIDE;
    }

    public int count(int what) {
        switch (what) {
            case 0: return hall.swept;
            case 1: return hall.standing;
            case 2: return hall.countHits();
            case 3: return hall.plan.roomCount;
            case 4: return text.size;
            case 5: return thing.lines;
            case 6: return joins.told;
            case 7: return row.size;
            case 8: return lengths.told;
            default: return OUTSIDE;
        }
    }

    // ---- what several parts use

    private static boolean isWithin(int v, int least, int most) {
        return v >= least && v <= most;
    }

    private static boolean isCell(int cell) {
        return isWithin(cell, 0, CELLS - 1);
    }

    private static boolean isInHall(int x, int y) {
        return isWithin(x, 0, SIDE - 1) && isWithin(y, 0, SIDE - 1);
    }

    private static boolean isTurn(int turn) {
        return isWithin(turn, 0, TURNS - 1);
    }

    private static boolean isCatch(int k) {
        return isWithin(k, 0, MOST_CATCHES - 1);
    }

    private static boolean isSpot(int spot) {
        return isWithin(spot, 0, SPOTS - 1);
    }

    private static boolean has(long cells, int cell) {
        return (cells >>> cell & 1) != 0;
    }

    private static long bitOf(int x, int y) {
        return 1L << SIDE * y + x;
    }

    private static int turnedX(int x, int y, int turn) {
        switch (turn) {
            case 1: return -y;
            case 2: return -x;
            case 3: return y;
            default: return x;
        }
    }

    private static int turnedY(int x, int y, int turn) {
        switch (turn) {
            case 1: return x;
            case 2: return -y;
            case 3: return -x;
            default: return y;
        }
    }

    /** Into how many even steps from spot to spot a line by x, y (-7 .. 7) falls; 1 for no line at all. */
    private static int stepsOf(int x, int y) {
        int far = Math.max(Math.abs(x), Math.abs(y));
        for (int steps = Math.min(far, REACH); steps > 1; steps--) {
            if (x % steps == 0 && y % steps == 0) {
                return steps;
            }
        }
        return 1;
    }

    /** The cells that those blocking hide from a cell that is none of them. */
    private static long hiddenFrom(int from, long blocking) {
        long hidden = 0;
        for (int cell = 0; cell < CELLS; cell++) {
            if (has(blocking, cell)) {
                hidden |= behind(from, cell);
            }
        }
        return hidden;
    }

    /** The cells farther on, on the line from one cell through another. */
    private static long behind(int from, int through) {
        int x = through % SIDE - from % SIDE;
        int y = through / SIDE - from / SIDE;
        int steps = stepsOf(x, y);
        int nextX = through % SIDE + x / steps;
        int nextY = through / SIDE + y / steps;
        long cells = 0;
        for (int k = 0; k < SIDE && isInHall(nextX, nextY); k++) {
            cells |= bitOf(nextX, nextY);
            nextX += x / steps;
            nextY += y / steps;
        }
        return cells;
    }

    private static int greatestDivisor(int a, int b) {
        int big = Math.abs(a);
        int small = Math.abs(b);
        for (int k = 0; k < CELLS && small != 0; k++) {
            int rest = big % small;
            big = small;
            small = rest;
        }
        return big;
    }

    /** A sweep's hits from its own middle, and how it lies in the hall while it stands. */
    private static final class Sweep {
        final int[] xs = new int[MOST_HITS];
        final int[] ys = new int[MOST_HITS];
        final int[] marks = new int[MOST_HITS];
        final Print print = new Print();
        int hits = 0;
        boolean stands = false;
        int middle = 0;
        int turn = 0;

        boolean hasHitAt(int x, int y) {
            for (int i = 0; i < hits; i++) {
                if (xs[i] == x && ys[i] == y) {
                    return true;
                }
            }
            return false;
        }

        int addHit(int x, int y, int mark) {
            if (hits >= MOST_HITS) {
                return FULL;
            }
            xs[hits] = x;
            ys[hits] = y;
            marks[hits] = mark;
            hits++;
            return hits;
        }
    }

    /**
     * The cells that a turned sweep takes. They are drawn once in the upper left corner of the hall,
     * so that laying the middle in one cell after another is a shift and no new drawing.
     */
    private static final class Print {
        final long[] drawnByMark = new long[MOST_MARK + 1];
        long drawnHits = 0;
        long drawnBeams = 0;
        int left = 0;
        int right = 0;
        int top = 0;
        int bottom = 0;
        int shift = 0;

        void draw(Sweep sweep, int turn) {
            measure(sweep, turn);
            drawnHits = 0;
            drawnBeams = 0;
            for (int mark = 0; mark <= MOST_MARK; mark++) {
                drawnByMark[mark] = 0;
            }
            if (right - left >= SIDE || bottom - top >= SIDE) {
                // Too wide for the hall: lay refuses it everywhere.
                return;
            }
            for (int i = 0; i < sweep.hits; i++) {
                int x = turnedX(sweep.xs[i], sweep.ys[i], turn);
                int y = turnedY(sweep.xs[i], sweep.ys[i], turn);
                long spot = bitOf(x - left, y - top);
                drawnHits |= spot;
                drawnByMark[sweep.marks[i]] |= spot;
                drawBeam(x, y);
            }
        }

        private void measure(Sweep sweep, int turn) {
            left = 0;
            right = 0;
            top = 0;
            bottom = 0;
            for (int i = 0; i < sweep.hits; i++) {
                int x = turnedX(sweep.xs[i], sweep.ys[i], turn);
                int y = turnedY(sweep.xs[i], sweep.ys[i], turn);
                left = Math.min(left, x);
                right = Math.max(right, x);
                top = Math.min(top, y);
                bottom = Math.max(bottom, y);
            }
        }

        private void drawBeam(int x, int y) {
            int steps = stepsOf(x, y);
            for (int k = 0; k < steps; k++) {
                drawnBeams |= bitOf(k * (x / steps) - left, k * (y / steps) - top);
            }
        }

        /** Whether all hits are in the hall with the middle in that cell; the print lies there then. */
        boolean lay(int cell) {
            int x = cell % SIDE;
            int y = cell / SIDE;
            if (x + left < 0 || x + right >= SIDE || y + top < 0 || y + bottom >= SIDE) {
                return false;
            }
            shift = SIDE * (y + top) + x + left;
            return true;
        }

        long hitCells() {
            return drawnHits << shift;
        }

        long beamCells() {
            return drawnBeams << shift;
        }

        private long cellsOfMark(int mark) {
            return drawnByMark[mark] << shift;
        }

        int quarrelsWith(Print other) {
            return Long.bitCount(hitCells() & other.beamCells())
                    + Long.bitCount(beamCells() & other.hitCells())
                    + markQuarrelsWith(other);
        }

        private int markQuarrelsWith(Print other) {
            long both = hitCells() & ~cellsOfMark(0) & other.hitCells() & ~other.cellsOfMark(0);
            if (both == 0) {
                return 0;
            }
            int alike = 0;
            for (int mark = 1; mark <= MOST_MARK; mark++) {
                alike += Long.bitCount(cellsOfMark(mark) & other.cellsOfMark(mark));
            }
            return Long.bitCount(both) - alike;
        }

        boolean hasMarkAt(int mark, int cell) {
            return isWithin(mark, 0, MOST_MARK) && has(cellsOfMark(mark), cell);
        }
    }

    /** All sweeps, and what those that stand tell of the cells. */
    private static final class Hall {
        final Sweep[] sweeps = new Sweep[MOST_SWEEPS];
        final Print trial = new Print();
        final Plan plan = new Plan();
        int swept = 0;
        int standing = 0;
        long hits = 0;
        long beams = 0;

        Hall() {
            for (int i = 0; i < MOST_SWEEPS; i++) {
                sweeps[i] = new Sweep();
            }
        }

        Sweep sweepAt(int number) {
            return isWithin(number, 0, swept - 1) ? sweeps[number] : null;
        }

        int addSweep() {
            if (swept >= MOST_SWEEPS) {
                return FULL;
            }
            swept++;
            return swept - 1;
        }

        int place(Sweep sweep, int cell, int turn) {
            sweep.print.draw(sweep, turn);
            if (!sweep.print.lay(cell)) {
                return NOT;
            }
            sweep.stands = true;
            sweep.middle = cell;
            sweep.turn = turn;
            standing++;
            lookAgain();
            return standing;
        }

        int remove(Sweep sweep) {
            sweep.stands = false;
            standing--;
            lookAgain();
            return TURNS * sweep.middle + sweep.turn;
        }

        private void lookAgain() {
            hits = 0;
            beams = 0;
            for (int i = 0; i < swept; i++) {
                if (sweeps[i].stands) {
                    hits |= sweeps[i].print.hitCells();
                    beams |= sweeps[i].print.beamCells();
                }
            }
            plan.survey(allOf(HIT), allOf(EMPTY));
        }

        int countHits() {
            int all = 0;
            for (int i = 0; i < swept; i++) {
                all += sweeps[i].hits;
            }
            return all;
        }

        long allOf(int kind) {
            switch (kind) {
                case UNSEEN: return ~hits & ~beams;
                case EMPTY: return ~hits & beams;
                case HIT: return hits & ~beams;
                case GHOST: return hits & beams;
                default: return 0;
            }
        }

        int kindOf(int cell) {
            return (has(hits, cell) ? HIT : UNSEEN) + (has(beams, cell) ? EMPTY : UNSEEN);
        }

        int leadTo(int cell, boolean isByBeam) {
            int found = 0;
            for (int i = 0; i < swept; i++) {
                Print print = sweeps[i].print;
                if (sweeps[i].stands && has(isByBeam ? print.beamCells() : print.hitCells(), cell)) {
                    found |= 1 << i;
                }
            }
            return found;
        }

        boolean hasMarkAt(int mark, int cell) {
            for (int i = 0; i < swept; i++) {
                if (sweeps[i].stands && sweeps[i].print.hasMarkAt(mark, cell)) {
                    return true;
                }
            }
            return false;
        }

        /** Lays the trial for the calls below that ask about it; whether all hits are in the hall. */
        boolean tryOut(Sweep sweep, int cell, int turn) {
            trial.draw(sweep, turn);
            return trial.lay(cell);
        }

        int catchesOfTrial() {
            return Long.bitCount(trial.hitCells() & hits);
        }

        int quarrelsOfTrial() {
            int quarrels = 0;
            for (int i = 0; i < swept; i++) {
                if (sweeps[i].stands) {
                    quarrels += trial.quarrelsWith(sweeps[i].print);
                }
            }
            return quarrels;
        }

        int barsOfTrial(int miss) {
            int barring = 0;
            for (int i = 0; i < swept; i++) {
                if (sweeps[i].stands && trial.quarrelsWith(sweeps[i].print) > miss) {
                    barring |= 1 << i;
                }
            }
            return barring;
        }

        int findWay(Sweep sweep, int i, int need, int miss) {
            int found = 0;
            for (int turn = 0; turn < TURNS; turn++) {
                trial.draw(sweep, turn);
                for (int cell = 0; cell < CELLS; cell++) {
                    if (trial.lay(cell) && catchesOfTrial() >= need && quarrelsOfTrial() <= miss) {
                        if (found == i) {
                            return TURNS * cell + turn;
                        }
                        found++;
                    }
                }
            }
            return i == -1 ? found : NONE;
        }
    }

    /** Walls, doors and rooms of the cells that are HIT and EMPTY. */
    private static final class Plan {
        private static final int LEAST_WALL = 3, COLUMN = 1000;
        private static final long WALL_MAY_BEGIN = 0x3F3F3F3F3F3F3F3FL;

        final long[] roomCells = new long[CELLS];
        int roomCount = 0;
        long hitCells = 0;
        long doorCells = 0;

        void survey(long hit, long empty) {
            hitCells = hit;
            doorCells = empty & betweenTwo(hit);
            findRooms(empty & ~doorCells, beside(~(hit | empty)) | BORDER);
        }

        /** Cells with one of these left and right, or above and below, and none on the two other sides. */
        private static long betweenTwo(long cells) {
            long right = cells << 1 & ~LEFT_SIDE;
            long left = cells >>> 1 & ~RIGHT_SIDE;
            long below = cells << SIDE;
            long above = cells >>> SIDE;
            return right & left & ~(below | above) | below & above & ~(right | left);
        }

        private static long beside(long cells) {
            return cells << 1 & ~LEFT_SIDE | cells >>> 1 & ~RIGHT_SIDE | cells << SIDE | cells >>> SIDE;
        }

        private void findRooms(long floor, long open) {
            roomCount = 0;
            long left = floor;
            for (int cell = 0; cell < CELLS; cell++) {
                if (has(left, cell)) {
                    long region = spreadFrom(1L << cell, floor);
                    left &= ~region;
                    if ((region & open) == 0) {
                        roomCells[roomCount] = region;
                        roomCount++;
                    }
                }
            }
        }

        private static long spreadFrom(long seed, long floor) {
            long region = seed;
            for (int k = 0; k < CELLS; k++) {
                long wider = region | beside(region) & floor;
                if (wider == region) {
                    return region;
                }
                region = wider;
            }
            return region;
        }

        boolean isRoom(int room) {
            return isWithin(room, 0, roomCount - 1);
        }

        int roomOf(int cell) {
            for (int room = 0; room < roomCount; room++) {
                if (has(roomCells[room], cell)) {
                    return room;
                }
            }
            return NONE;
        }

        long cellsOfRoom(int room) {
            return isRoom(room) ? roomCells[room] : 0;
        }

        int doorsBetween(int one, int two) {
            long reached = cellsOfRoom(one);
            long goal = cellsOfRoom(two);
            for (int doors = 0; doors < CELLS; doors++) {
                if ((reached & goal) != 0) {
                    return doors;
                }
                reached |= roomsBehind(reached);
            }
            return NONE;
        }

        private long roomsBehind(long reached) {
            long behind = beside(beside(reached) & doorCells);
            long found = 0;
            for (int room = 0; room < roomCount; room++) {
                if ((roomCells[room] & behind) != 0) {
                    found |= roomCells[room];
                }
            }
            return found;
        }

        long allCorners() {
            long rows = hitCells & hitCells >>> 1 & hitCells >>> 2 & WALL_MAY_BEGIN;
            long columns = hitCells & hitCells >>> SIDE & hitCells >>> 2 * SIDE;
            return (rows | rows << 1 | rows << 2) & (columns | columns << SIDE | columns << 2 * SIDE);
        }

        int findWall(int i) {
            int found = 0;
            for (int line = 0; line < 2 * SIDE; line++) {
                for (int at = 0; at < SIDE; at++) {
                    int length = isHitOn(line, at - 1) ? 0 : runFrom(line, at);
                    if (length >= LEAST_WALL) {
                        if (found == i) {
                            return (line < SIDE ? 0 : COLUMN) + 10 * cellOn(line, at) + length;
                        }
                        found++;
                    }
                }
            }
            return i == -1 ? found : NONE;
        }

        /** Lines 0 .. 7 are the rows, 8 .. 15 the columns. */
        private static int cellOn(int line, int at) {
            return line < SIDE ? SIDE * line + at : SIDE * at + line - SIDE;
        }

        private boolean isHitOn(int line, int at) {
            return isWithin(at, 0, SIDE - 1) && has(hitCells, cellOn(line, at));
        }

        private int runFrom(int line, int from) {
            for (int at = from; at < SIDE; at++) {
                if (!isHitOn(line, at)) {
                    return at - from;
                }
            }
            return SIDE - from;
        }
    }

    /** The bytes written so far, and their reading token by token. */
    private static final class Text {
        private static final int BLANK = 32, SEMICOLON = 59;
        private static final String HIT_WORD = "hit", EMPTY_WORD = "empty", MARK_WORD = "mark";

        final int[] bytes = new int[MOST_BYTES];
        int size = 0;
        int tokenBegin = 0;
        int tokenEnd = 0;

        int append(long more, int n) {
            if (size + n > MOST_BYTES) {
                return FULL;
            }
            for (int i = 0; i < n; i++) {
                bytes[size + i] = (int) (more >>> 8 * i & 255);
            }
            size += n;
            return size;
        }

        int clear() {
            int had = size;
            size = 0;
            return had;
        }

        /** The place of the fault, or NONE: then the thing has all lines. */
        int readInto(Thing thing) {
            thing.lines = 0;
            tokenEnd = 0;
            for (int line = 0; line < MOST_LINES; line++) {
                if (!readLine(thing)) {
                    return tokenBegin;
                }
                nextToken();
                if (tokenBegin == size) {
                    return NONE;
                }
                if (bytes[tokenBegin] != SEMICOLON) {
                    return tokenBegin;
                }
            }
            // The last line that may be is read: the sign that tells of one more is the fault.
            return tokenBegin;
        }

        private boolean readLine(Thing thing) {
            nextToken();
            int kind = wordKind();
            if (kind == NONE) {
                return false;
            }
            int mark = kind == Thing.WANTS_MARK ? readNumber(1, MOST_MARK) : 0;
            if (mark == NONE) {
                return false;
            }
            int x = readNumber(0, SIDE - 1);
            if (x == NONE) {
                return false;
            }
            int y = readNumber(0, SIDE - 1);
            return y != NONE && thing.addLine(kind, mark, x, y);
        }

        private int wordKind() {
            if (isWord(HIT_WORD)) {
                return Thing.WANTS_HIT;
            }
            if (isWord(EMPTY_WORD)) {
                return Thing.WANTS_EMPTY;
            }
            return isWord(MARK_WORD) ? Thing.WANTS_MARK : NONE;
        }

        private boolean isWord(String word) {
            if (tokenEnd - tokenBegin != word.length()) {
                return false;
            }
            for (int i = 0; i < word.length(); i++) {
                if (bytes[tokenBegin + i] != word.charAt(i)) {
                    return false;
                }
            }
            return true;
        }

        private int readNumber(int least, int most) {
            nextToken();
            if (tokenEnd - tokenBegin != 1) {
                return NONE;
            }
            int number = bytes[tokenBegin] - '0';
            return isWithin(number, least, most) ? number : NONE;
        }

        /** At the end the token is empty and begins at the text's length: there a fault is told. */
        private void nextToken() {
            int at = tokenEnd;
            while (at < size && bytes[at] == BLANK) {
                at++;
            }
            tokenBegin = at;
            if (at < size) {
                at = isLetter(bytes[at]) || isDigit(bytes[at]) ? endOfRow(at) : at + 1;
            }
            tokenEnd = at;
        }

        private int endOfRow(int from) {
            boolean isWordRow = isLetter(bytes[from]);
            int at = from;
            while (at < size && (isWordRow ? isLetter(bytes[at]) : isDigit(bytes[at]))) {
                at++;
            }
            return at;
        }

        private static boolean isLetter(int sign) {
            return sign >= 'a' && sign <= 'z';
        }

        private static boolean isDigit(int sign) {
            return sign >= '0' && sign <= '9';
        }
    }

    /** The lines of a text without fault, and where they fit. */
    private static final class Thing {
        static final int WANTS_HIT = 0, WANTS_EMPTY = 1, WANTS_MARK = 2;

        final int[] kinds = new int[MOST_LINES];
        final int[] marks = new int[MOST_LINES];
        final int[] xs = new int[MOST_LINES];
        final int[] ys = new int[MOST_LINES];
        final int[] costs = new int[TURNS * CELLS];
        int lines = 0;

        boolean addLine(int kind, int mark, int x, int y) {
            if (lines >= MOST_LINES) {
                return false;
            }
            kinds[lines] = kind;
            marks[lines] = mark;
            xs[lines] = x;
            ys[lines] = y;
            lines++;
            return true;
        }

        int findFit(Hall hall, int i, int price) {
            for (int pose = 0; pose < TURNS * CELLS; pose++) {
                costs[pose] = costAt(hall, pose / CELLS, pose % CELLS);
            }
            int found = 0;
            for (int cost = 0; cost <= price; cost++) {
                for (int pose = 0; pose < TURNS * CELLS; pose++) {
                    if (costs[pose] == cost) {
                        if (found == i) {
                            return 1000 * cost + TURNS * (pose % CELLS) + pose / CELLS;
                        }
                        found++;
                    }
                }
            }
            return i == -1 ? found : NONE;
        }

        private int costAt(Hall hall, int turn, int cell) {
            int cost = 0;
            for (int line = 0; line < lines; line++) {
                int x = cell % SIDE + turnedX(xs[line], ys[line], turn);
                int y = cell / SIDE + turnedY(xs[line], ys[line], turn);
                if (!isInHall(x, y)) {
                    return NONE;
                }
                int more = costOf(hall, line, SIDE * y + x);
                if (more == NONE) {
                    return NONE;
                }
                cost += more;
            }
            return cost;
        }

        private int costOf(Hall hall, int line, int cell) {
            int there = hall.kindOf(cell);
            if (there == UNSEEN) {
                return 1;
            }
            boolean isMet;
            switch (kinds[line]) {
                case WANTS_HIT: isMet = there == HIT; break;
                case WANTS_EMPTY: isMet = there == EMPTY; break;
                default: isMet = hall.hasMarkAt(marks[line], cell);
            }
            return isMet ? 0 : NONE;
        }
    }

    /** What the cells were each time that was kept. */
    private static final class Catches {
        private static final int GONE = 0, NEW = 1, LEFT = 2;

        final long[][] was = new long[MOST_CATCHES][KINDS];
        final int[] goneCells = new int[MOST_MOVED];
        final int[] newCells = new int[MOST_MOVED];
        final int[] least = new int[1 << MOST_MOVED];

        Catches() {
            for (int k = 0; k < MOST_CATCHES; k++) {
                was[k][UNSEEN] = -1L;
            }
        }

        int store(Hall hall, int k) {
            for (int kind = 0; kind < KINDS; kind++) {
                was[k][kind] = hall.allOf(kind);
            }
            return Long.bitCount(~was[k][UNSEEN]);
        }

        long changed(int one, int two, int what) {
            switch (what) {
                case GONE: return was[one][HIT] & was[two][EMPTY];
                case NEW: return was[one][EMPTY] & was[two][HIT];
                case LEFT: return was[one][HIT] & was[two][UNSEEN];
                default: return 0;
            }
        }

        int pairs(int one, int two, boolean isDistance) {
            int gone = listFirst(changed(one, two, GONE), goneCells);
            int fresh = listFirst(changed(one, two, NEW), newCells);
            if (!isDistance) {
                return Math.min(gone, fresh);
            }
            return gone <= fresh ? leastTogether(goneCells, gone, newCells, fresh)
                    : leastTogether(newCells, fresh, goneCells, gone);
        }

        private static int listFirst(long cells, int[] list) {
            int listed = 0;
            for (int cell = 0; cell < CELLS && listed < list.length; cell++) {
                if (has(cells, cell)) {
                    list[listed] = cell;
                    listed++;
                }
            }
            return listed;
        }

        /** least[taken]: the least distances by which the first of the few have just those taken of the many. */
        private int leastTogether(int[] few, int fewCount, int[] many, int manyCount) {
            int best = fewCount == 0 ? 0 : BEYOND_ALL_MOVES;
            for (int taken = 1; taken < 1 << manyCount; taken++) {
                least[taken] = BEYOND_ALL_MOVES;
            }
            least[0] = 0;
            for (int taken = 0; taken < 1 << manyCount; taken++) {
                int paired = Integer.bitCount(taken);
                if (paired == fewCount) {
                    best = Math.min(best, least[taken]);
                }
                for (int j = 0; j < manyCount && paired < fewCount; j++) {
                    if ((taken >> j & 1) == 0) {
                        int more = least[taken] + distance(few[paired], many[j]);
                        least[taken | 1 << j] = Math.min(least[taken | 1 << j], more);
                    }
                }
            }
            return best;
        }

        private static int distance(int one, int two) {
            return Math.abs(one % SIDE - two % SIDE) + Math.abs(one / SIDE - two / SIDE);
        }
    }

    /** What is told between spots, and which of it agrees. */
    private static final class Joins {
        final int[] begins = new int[MOST_JOINS];
        final int[] ends = new int[MOST_JOINS];
        final int[] bys = new int[MOST_JOINS];
        final int[] weights = new int[MOST_JOINS];
        /** Row by row of a search: the group of each spot, and its number in that group. */
        final int[][] groups = new int[MOST_JOINS + 1][SPOTS];
        final int[][] numbers = new int[MOST_JOINS + 1][SPOTS];
        int told = 0;
        int best = 0;
        int bestWeight = 0;
        int searched = 0;

        int tell(int a, int b, int v, int weight) {
            if (told >= MOST_JOINS) {
                return FULL;
            }
            begins[told] = a;
            ends[told] = b;
            bys[told] = v;
            weights[told] = weight;
            told++;
            return told - 1;
        }

        boolean isJoin(int join) {
            return isWithin(join, 0, told - 1);
        }

        int beginOf(int join, boolean isBack) {
            return isBack ? ends[join] : begins[join];
        }

        int tellsOf(int join, boolean isBack) {
            return isBack ? -bys[join] : bys[join];
        }

        int looseOf(int join) {
            return MOST_WEIGHT - weights[join] + 1;
        }

        boolean isAtPeace(int set) {
            loosen(0);
            for (int join = 0; join < told; join++) {
                if ((set >> join & 1) != 0 && !tie(join, 0)) {
                    return false;
                }
            }
            return true;
        }

        private void loosen(int level) {
            for (int spot = 0; spot < SPOTS; spot++) {
                groups[level][spot] = spot;
                numbers[level][spot] = 0;
            }
        }

        /** Whether a join agrees with those tied at that level; it is tied then. */
        private boolean tie(int join, int level) {
            int[] group = groups[level];
            int[] number = numbers[level];
            int gap = number[begins[join]] + bys[join] - number[ends[join]];
            int from = group[ends[join]];
            int to = group[begins[join]];
            if (from == to) {
                return gap == 0;
            }
            for (int spot = 0; spot < SPOTS; spot++) {
                if (group[spot] == from) {
                    group[spot] = to;
                    number[spot] += gap;
                }
            }
            return true;
        }

        int bestSet() {
            if (searched != told) {
                searched = told;
                bestWeight = 0;
                best = 0;
                int all = 0;
                for (int join = 0; join < told; join++) {
                    all += weights[join];
                }
                loosen(told);
                search(this, told, 0, 0, all);
            }
            return best;
        }

        /** The joins below level are not decided yet; weight is that of the set, open that of those. */
        private static void search(Joins joins, int level, int set, int weight, int open) {
            if (level > MOST_JOINS || weight + open < joins.bestWeight) {
                return;
            }
            if (level <= 0) {
                // Sets come from the greatest number down, so that of several the last is the least.
                joins.best = set;
                joins.bestWeight = weight;
                return;
            }
            int join = level - 1;
            int rest = open - joins.weights[join];
            joins.copyDown(level);
            if (joins.tie(join, join)) {
                search(joins, join, set | 1 << join, weight + joins.weights[join], rest);
            }
            joins.copyDown(level);
            search(joins, join, set, weight, rest);
        }

        private void copyDown(int level) {
            System.arraycopy(groups[level], 0, groups[level - 1], 0, SPOTS);
            System.arraycopy(numbers[level], 0, numbers[level - 1], 0, SPOTS);
        }
    }

    /** The row of joins of a loop, each gone forward or back. */
    private static final class Row {
        final int[] steps = new int[MOST_ROW];
        final boolean[] isBack = new boolean[MOST_ROW];
        int size = 0;

        int append(Joins joins, int join, boolean back) {
            if (size > 0 && joins.beginOf(join, back) != endOfRow(joins)) {
                return NOT;
            }
            if (size >= MOST_ROW) {
                return FULL;
            }
            steps[size] = join;
            isBack[size] = back;
            size++;
            return size;
        }

        int clear() {
            int had = size;
            size = 0;
            return had;
        }

        private int endOfRow(Joins joins) {
            return joins.beginOf(steps[size - 1], !isBack[size - 1]);
        }

        boolean isClosed(Joins joins) {
            return size > 0 && joins.beginOf(steps[0], isBack[0]) == endOfRow(joins);
        }

        int missOf(Joins joins) {
            int miss = 0;
            for (int i = 0; i < size; i++) {
                miss += joins.tellsOf(steps[i], isBack[i]);
            }
            return miss;
        }

        private int looseTogether(Joins joins) {
            int loose = 0;
            for (int i = 0; i < size; i++) {
                loose += joins.looseOf(steps[i]);
            }
            return loose;
        }

        int spreadPart(Joins joins, int i, boolean isAbove) {
            int below = looseTogether(joins);
            int above = joins.tellsOf(steps[i], isBack[i]) * below - missOf(joins) * joins.looseOf(steps[i]);
            int common = greatestDivisor(above, below);
            if (common == 0) {
                return NO_FRACTION;
            }
            return (isAbove ? above : below) / common;
        }
    }

    /** Lengths as told, some with the true one. */
    private static final class Lengths {
        final int[] los = new int[MOST_LENGTHS];
        final int[] his = new int[MOST_LENGTHS];
        final int[] truths = new int[MOST_LENGTHS];
        int told = 0;
        int trueOnes = 0;

        int tell(int lo, int hi, int truly) {
            if (told >= MOST_LENGTHS) {
                return FULL;
            }
            los[told] = lo;
            his[told] = hi;
            truths[told] = truly;
            told++;
            if (truly >= 0) {
                trueOnes++;
            }
            return told;
        }

        /** By how much the span falls short of the true one; NONE without a true one. */
        private int lackOf(int i) {
            return truths[i] < 0 ? NONE : Math.max(0, Math.max(los[i] - truths[i], truths[i] - his[i]));
        }

        int holdingWith(int wider) {
            int holding = 0;
            for (int i = 0; i < told; i++) {
                if (isWithin(lackOf(i), 0, wider)) {
                    holding++;
                }
            }
            return holding;
        }

        /** The least span is none at all or just what one of them lacks. */
        int leastSpan(int hundredths) {
            if (trueOnes == 0) {
                return NONE;
            }
            if (isEnough(0, hundredths)) {
                return 0;
            }
            int least = LONGEST;
            for (int i = 0; i < told; i++) {
                int lack = lackOf(i);
                if (lack > 0 && lack < least && isEnough(lack, hundredths)) {
                    least = lack;
                }
            }
            return least;
        }

        private boolean isEnough(int wider, int hundredths) {
            return 100 * holdingWith(wider) >= hundredths * trueOnes;
        }
    }
}
