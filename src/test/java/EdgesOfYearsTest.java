/** Part 4 of the document's terms and promises 24 to 28: a method for each sentence that names an edge. */
public final class EdgesOfYearsTest extends Checks {
    private static final int[] NO_CATCH = {LEAST, -1, 3, 4, MOST};

    public static void main(String[] args) {
        catchesZeroToTwo();
        unseenAtFirst();
        unseenAtFirstEverywhere();
        keepsWhatIsThere();
        notUnseen();
        goneNewLeft();
        noSuchSince();
        ofOneCatchTwice();
        pairsUpToSix();
        pairsFarApart();
        pairsCrossed();
        noPairs();
        noSuchMoved();
        seeAllPairs();
        seeBeyondGhosts();
        seeFromHits();
        noSuchSee();
        nextOfNoPlaces();
        nextOfNothingAsked();
        nextCountsUnseen();
        nextBehindGhosts();
        nextCountsItself();
        nextIsTheLeast();
        nextAtTheEnds();
        end("the edges of catches and places are as told");
    }

    private static void catchesZeroToTwo() {
        promise = "24: CATCHES 0 .. 2";
        RoomsCaught x = new RoomsCaught();
        x.stand(make(x, 1, 0, 0), 0, 0);
        for (int k : NO_CATCH) {
            due("keep(" + k, x.keep(k), UNKNOWN);
        }
        for (int k = 0; k <= 2; k++) {
            due("not kept yet", x.since(k, k == 0 ? 1 : 0, 2), 0);
        }
        for (int k = 0; k <= 2; k++) {
            due("keep(" + k, x.keep(k), 2);
        }
    }

    private static void unseenAtFirst() {
        promise = "24: UNSEEN at first, all";
        for (int kept = 0; kept <= 2; kept++) {
            RoomsCaught x = new RoomsCaught();
            x.stand(make(x, 1, 0, 0), 0, 0);
            x.keep(kept);
            for (int one = 0; one <= 2; one++) {
                for (int two = 0; two <= 2; two++) {
                    due("GONE", x.since(one, two, 0), 0);
                    due("NEW", x.since(one, two, 1), 0);
                    due("LEFT of " + one + ", " + two, x.since(one, two, 2), one == kept && two != kept ? bits(1) : 0);
                }
            }
        }
    }

    private static void unseenAtFirstEverywhere() {
        promise = "24: UNSEEN at first, the first and the last CELL, too";
        RoomsCaught x = new RoomsCaught();
        int[] middles = {8, 48};
        for (int k = 0; k < 2; k++) {
            // The whole first row from the second one, then the whole last row from the one ahead of it.
            int row = x.sweep();
            for (int i = 0; i < 8; i++) {
                x.hit(row, i, k == 0 ? -1 : 1, 0);
            }
            x.stand(row, middles[k], 0);
            x.keep(0);
            for (int other = 1; other <= 2; other++) {
                due("LEFT of row " + 7 * k, x.since(0, other, 2), 255L << 56 * k);
            }
            x.part(row);
        }
    }

    private static void keepsWhatIsThere() {
        promise = "24: A CATCH keeps what is there";
        RoomsCaught x = new RoomsCaught();
        int one = make(x, 1, 0, 0);
        x.stand(one, 0, 0);
        due("two", x.keep(0), 2);
        x.part(one);
        due("what is there later is another thing", x.since(0, 1, 2), bits(1));
        due("none", x.keep(1), 0);
        due("kept anew, nothing is left of it", x.keep(0), 0);
        due("LEFT", x.since(0, 1, 2), 0);
        x.stand(one, 8, 0);
        due("two", x.keep(0), 2);
        due("LEFT", x.since(0, 2, 2), bits(9));
    }

    private static void notUnseen() {
        promise = "24: how many CELLS are not UNSEEN in it";
        RoomsCaught x = new RoomsCaught();
        due("none", x.keep(0), 0);
        int bare = x.sweep();
        x.stand(bare, 0, 0);
        due("without HITS", x.keep(0), 0);
        int ghost = make(x, 1, 0, 0, 2, 0, 0);
        x.stand(ghost, 0, 0);
        due("EMPTY, GHOST and HIT", x.keep(0), 3);
        RoomsCaught y = new RoomsCaught();
        for (int i = 0; i < 8; i++) {
            y.stand(make(y, i < 4 ? 7 : -7, 0, 0), 8 * i + (i < 4 ? 0 : 7), 0);
        }
        due("all", y.keep(2), 64);
    }

    /** CELL 27 as UNSEEN, EMPTY, HIT or a GHOST, by two SWEEPS that the hall has already. */
    private static void show(RoomsCaught x, int through, int upon, int kind) {
        x.part(through);
        x.part(upon);
        if (kind % 2 == 1) {
            x.stand(through, 26, 0);
        }
        if (kind >= 2) {
            x.stand(upon, 35, 0);
        }
        due("kind", x.cell(27), kind);
    }

    private static void goneNewLeft() {
        promise = "25: GONE, NEW, LEFT, else none";
        for (int first = 0; first <= 3; first++) {
            for (int second = 0; second <= 3; second++) {
                RoomsCaught x = new RoomsCaught();
                int through = make(x, 2, 0, 0);
                int upon = make(x, 0, -1, 0);
                show(x, through, upon, first);
                x.keep(2);
                show(x, through, upon, second);
                x.keep(1);
                String name = first + " then " + second;
                due(name + " GONE", x.since(2, 1, 0) >> 27 & 1, first == 2 && second == 1 ? 1 : 0);
                due(name + " NEW", x.since(2, 1, 1) >> 27 & 1, first == 1 && second == 2 ? 1 : 0);
                due(name + " LEFT", x.since(2, 1, 2) >> 27 & 1, first == 2 && second == 0 ? 1 : 0);
            }
        }
    }

    private static void noSuchSince() {
        promise = "25: 0: no such CATCH, another number";
        RoomsCaught x = new RoomsCaught();
        x.stand(make(x, 1, 0, 0), 0, 0);
        x.keep(0);
        due("LEFT", x.since(0, 1, 2), bits(1));
        for (int k : NO_CATCH) {
            due("since(0, " + k, x.since(0, k, 2), 0);
            due("since(" + k + ", 1", x.since(k, 1, 2), 0);
            due("since of it twice", x.since(k, k, 2), 0);
            due("what " + k, x.since(0, 1, k), 0);
        }
    }

    private static void ofOneCatchTwice() {
        promise = "25, 26: one CATCH and itself";
        RoomsCaught x = new RoomsCaught();
        x.stand(make(x, 1, 0, 0, 2, 0, 0, 0, 3, 0), 0, 0);
        for (int k = 0; k <= 2; k++) {
            x.keep(k);
            for (int what = 0; what <= 2; what++) {
                due("since", x.since(k, k, what), 0);
            }
            due("pairs", x.moved(k, k, 0), 0);
            due("distances", x.moved(k, k, 1), 0);
        }
    }

    private static final int[] STEP_X = {1, 0, 1, 2, 1, 3, 1};
    private static final int[] STEP_Y = {0, 1, 1, 1, 2, 1, 3};

    /** HITS a step off the MIDDLE, or two steps, in the first so many of seven ways. */
    private static void look(RoomsCaught x, int ways, int steps, int middle) {
        int sweep = x.sweep();
        int sign = middle == 0 ? 1 : -1;
        for (int i = 0; i < ways; i++) {
            x.hit(sweep, sign * steps * STEP_X[i], sign * steps * STEP_Y[i], 0);
        }
        x.stand(sweep, middle, 0);
    }

    /** So many CELLS GONE at the upper left, so many NEW at the lower right. */
    private static RoomsCaught changedHall(int gone, int fresh) {
        RoomsCaught x = new RoomsCaught();
        look(x, gone, 1, 0);
        look(x, fresh, 2, 63);
        x.keep(0);
        x.part(0);
        x.part(1);
        look(x, gone, 2, 0);
        look(x, fresh, 1, 63);
        x.keep(1);
        return x;
    }

    private static void pairsUpToSix() {
        promise = "26: as many as can be (the first 6 of each by numbers count)";
        for (int gone = 0; gone <= 7; gone++) {
            for (int fresh = 0; fresh <= 7; fresh++) {
                RoomsCaught x = changedHall(gone, fresh);
                long goneCells = x.since(0, 1, 0);
                long freshCells = x.since(0, 1, 1);
                due("GONE", Long.bitCount(goneCells), gone);
                due("NEW", Long.bitCount(freshCells), fresh);
                String name = gone + " GONE, " + fresh + " NEW";
                int pairs = Math.min(6, Math.min(gone, fresh));
                int distances = least(goneCells, freshCells, 0, 0, 0, pairs);
                due(name, x.moved(0, 1, 0), pairs);
                due(name, x.moved(0, 1, 1), distances);
                due(name + ", the other way", x.moved(1, 0, 0), pairs);
                due(name + ", the other way", x.moved(1, 0, 1), distances);
            }
        }
    }

    /** The least distances of so many pairs, trying all; of each set the first 6 by numbers are tried. */
    private static int least(long gone, long fresh, int at, int counted, long taken, int pairs) {
        if (pairs == 0) {
            return 0;
        }
        if (at == 64 || counted == 6) {
            return 10000;
        }
        if ((gone >> at & 1) == 0) {
            return least(gone, fresh, at + 1, counted, taken, pairs);
        }
        int best = least(gone, fresh, at + 1, counted + 1, taken, pairs);
        int seen = 0;
        for (int to = 0; to < 64 && seen < 6; to++) {
            if ((fresh >> to & 1) != 0) {
                seen++;
                if ((taken >> to & 1) == 0) {
                    int far = Math.abs(at % 8 - to % 8) + Math.abs(at / 8 - to / 8);
                    best = Math.min(best, far + least(gone, fresh, at + 1, counted + 1, taken | 1L << to, pairs - 1));
                }
            }
        }
        return best;
    }

    private static void pairsFarApart() {
        promise = "26: the least of their distances";
        RoomsCaught x = new RoomsCaught();
        int near = make(x, -1, 0, 0);
        int far = make(x, 2, 0, 0);
        int last = make(x, 1, 0, 0);
        int before = make(x, 0, -1, 0);
        // First 0 HIT and 63 EMPTY, then 0 EMPTY and 63 HIT.
        x.stand(near, 1, 0);
        x.stand(before, 63, 0);
        x.keep(0);
        x.part(near);
        x.part(before);
        x.stand(far, 0, 0);
        x.stand(last, 62, 0);
        x.keep(1);
        due("GONE", x.since(0, 1, 0), bits(0));
        due("NEW", x.since(0, 1, 1), 1L << 63);
        due("one pair", x.moved(0, 1, 0), 1);
        due("from one end to the other", x.moved(0, 1, 1), 14);
        due("and back", x.moved(1, 0, 1), 14);
    }

    /** By numbers 7, 8 go with 16, 23, but 7 is nearer to 23, and 8 to 16. */
    private static void pairsCrossed() {
        promise = "26: the least of all pairs together, not in the order of numbers";
        RoomsCaught x = new RoomsCaught();
        x.stand(make(x, 0, -1, 0), 16, 0);
        x.stand(make(x, 0, -2, 0), 23, 0);
        x.keep(0);
        x.part(0);
        x.part(1);
        x.stand(make(x, 0, 1, 0), 8, 0);
        x.stand(make(x, 0, 2, 0), 7, 0);
        x.keep(1);
        due("GONE", x.since(0, 1, 0), bits(7, 8));
        due("NEW", x.since(0, 1, 1), bits(16, 23));
        due("two pairs", x.moved(0, 1, 0), 2);
        due("1 and 2", x.moved(0, 1, 1), 3);
        due("back", x.moved(1, 0, 1), 3);
    }

    private static void noPairs() {
        promise = "26: none";
        RoomsCaught x = new RoomsCaught();
        for (int one = 0; one <= 2; one++) {
            for (int two = 0; two <= 2; two++) {
                due("pairs", x.moved(one, two, 0), 0);
                due("distances", x.moved(one, two, 1), 0);
            }
        }
    }

    private static void noSuchMoved() {
        promise = "26: UNKNOWN; OUTSIDE";
        RoomsCaught x = changedHall(2, 2);
        for (int k : NO_CATCH) {
            due("moved(" + k + ", 1", x.moved(k, 1, 0), UNKNOWN);
            due("moved(0, " + k, x.moved(0, k, 1), UNKNOWN);
            due("moved(" + k + ", 1, 2", x.moved(k, 1, 2), UNKNOWN);
            due("moved(0, " + k + ", -1", x.moved(0, k, -1), UNKNOWN);
        }
        for (int what : new int[] {LEAST, -1, 2, MOST}) {
            due("what " + what, x.moved(0, 1, what), OUTSIDE);
        }
        due("moved(0, 1, 0", x.moved(0, 1, 0), 2);
    }

    /** Whether a CELL's middle is just on the line between two others. */
    private static boolean between(int from, int to, int cell) {
        int ax = to % 8 - from % 8;
        int ay = to / 8 - from / 8;
        int bx = cell % 8 - from % 8;
        int by = cell / 8 - from / 8;
        int along = ax * bx + ay * by;
        return ax * by == ay * bx && along > 0 && along < ax * ax + ay * ay;
    }

    private static void seeAll(long shut, RoomsCaught... halls) {
        for (int from = 0; from < 64; from++) {
            for (int to = 0; to < 64; to++) {
                boolean isSeen = true;
                for (int cell = 0; cell < 64; cell++) {
                    isSeen &= (shut >> cell & 1) == 0 || !between(from, to, cell);
                }
                int want = (shut >> from & 1) != 0 ? NOT : isSeen ? 1 : 0;
                // No hall is asked more than 512 times.
                due("see(" + from + ", " + to, halls[from % halls.length].see(from, to), want);
            }
        }
    }

    private static RoomsCaught[] halls(int cell, int middle, boolean isGhost) {
        RoomsCaught[] halls = new RoomsCaught[11];
        for (int i = 0; i < halls.length; i++) {
            RoomsCaught x = new RoomsCaught();
            int dx = cell % 8 - middle % 8;
            int dy = cell / 8 - middle / 8;
            due("stand", x.stand(make(x, dx, dy, 0), middle, 0), 1);
            if (isGhost) {
                due("stand", x.stand(make(x, 2 * dx, 2 * dy, 0), middle, 0), 2);
            }
            halls[i] = x;
        }
        return halls;
    }

    private static void seeAllPairs() {
        promise = "27: if no CELL whose middle is just on the line between is HIT";
        int[] hits = {0, 7, 9, 27, 36, 44, 56, 63};
        int[] middles = {1, 6, 10, 19, 35, 45, 57, 62};
        for (int i = 0; i < hits.length; i++) {
            seeAll(1L << hits[i], halls(hits[i], middles[i], false));
        }
        RoomsCaught[] bare = new RoomsCaught[11];
        for (int i = 0; i < bare.length; i++) {
            bare[i] = new RoomsCaught();
        }
        seeAll(0, bare);
    }

    private static void seeBeyondGhosts() {
        promise = "27: or a GHOST";
        seeAll(bits(27, 35), halls(27, 19, true));
        seeAll(bits(18, 20), halls(18, 16, true));
    }

    private static void seeFromHits() {
        promise = "27: NOT: the first is HIT or a GHOST";
        RoomsCaught x = new RoomsCaught();
        x.stand(make(x, 1, 0, 0, 2, 0, 0), 0, 0);
        // 0 EMPTY, 1 a GHOST, 2 HIT, 3 UNSEEN.
        due("from EMPTY", x.see(0, 8), 1);
        due("from a GHOST", x.see(1, 8), NOT);
        due("from HIT", x.see(2, 8), NOT);
        due("from UNSEEN", x.see(3, 8), 1);
        due("a GHOST itself", x.see(0, 1), 1);
        due("a HIT behind a GHOST", x.see(0, 2), 0);
        due("a HIT itself", x.see(3, 2), 1);
        due("from a GHOST, itself", x.see(1, 1), NOT);
        due("from EMPTY, itself", x.see(0, 0), 1);
        due("from UNSEEN, itself", x.see(63, 63), 1);
    }

    private static void noSuchSee() {
        promise = "27: UNKNOWN";
        RoomsCaught x = new RoomsCaught();
        x.stand(make(x, 1, 0, 0), 0, 0);
        for (int cell : new int[] {LEAST, -64, -1, 64, 65, MOST}) {
            due("see(" + cell + ", 0", x.see(cell, 0), UNKNOWN);
            due("see(0, " + cell, x.see(0, cell), UNKNOWN);
            due("see(1, " + cell, x.see(1, cell), UNKNOWN);
            due("see of it itself", x.see(cell, cell), UNKNOWN);
        }
        due("see(63, 0", x.see(63, 0), 1);
        due("see(0, 63", x.see(0, 63), 1);
    }

    private static void nextOfNoPlaces() {
        promise = "28: NONE: of those where one may stand none is EMPTY or UNSEEN";
        RoomsCaught x = new RoomsCaught();
        due("no places", x.next(-1, 0), NONE);
        due("no places, nothing asked", x.next(0, 0), NONE);
        x.stand(make(x, 1, 0, 0, 2, 0, 0), 0, 0);
        due("HIT", x.next(-1, bits(2)), NONE);
        due("GHOST", x.next(-1, bits(1)), NONE);
        due("both", x.next(-1, bits(1, 2)), NONE);
        due("EMPTY", x.next(-1, bits(0, 1, 2)), 0);
        due("UNSEEN", x.next(-1, bits(1, 2, 3)), 3);
    }

    private static void nextOfNothingAsked() {
        promise = "28: nothing asked, or nothing seen of it: the least place";
        RoomsCaught x = new RoomsCaught();
        due("nothing", x.next(0, -1), 0);
        due("nothing", x.next(0, bits(5, 9, 63)), 5);
        x.stand(make(x, 1, 0, 0, 0, 1, 0), 0, 0);
        due("seen from none", x.next(bits(7), bits(0)), 0);
        due("HIT ones and EMPTY ones are asked", x.next(bits(0, 1, 8), bits(40, 50)), 40);
        due("the least place is HIT", x.next(0, bits(1, 8, 12)), 12);
    }

    private static void nextCountsUnseen() {
        promise = "28: most of those asked, that are UNSEEN";
        RoomsCaught x = new RoomsCaught();
        x.stand(make(x, 0, 1, 0, 1, 1, 0, 2, 1, 0, 3, 1, 0, 4, 1, 0, 5, 1, 0, 6, 1, 0, 7, 1, 0), 0, 0);
        // Row 1 is HIT. From 0 of the CELLS 16 .. 18 in row 2 just 17 is seen, past 0.5, 1; from 40 all three.
        due("17", x.see(0, 17), 1);
        due("16", x.see(0, 16), 0);
        due("18", x.see(0, 18), 0);
        due("three against one", x.next(bits(16, 17, 18), bits(0, 40)), 40);
        due("one against one: the least", x.next(bits(17), bits(0, 40)), 0);
        due("HIT ones do not count", x.next(bits(8, 9, 10, 11, 12, 18), bits(0, 40)), 40);
        due("EMPTY ones do not count", x.next(bits(0, 16), bits(0, 40)), 40);
        due("what is not asked does not count", x.next(bits(1), bits(2, 40)), 2);
    }

    private static void nextBehindGhosts() {
        promise = "28: would be SEEN: past no HIT one and no GHOST";
        RoomsCaught x = new RoomsCaught();
        x.stand(make(x, 0, 1, 0, 0, 2, 0), 19, 0);
        // 19 EMPTY, 27 a GHOST, 35 HIT.
        due("28 behind the GHOST", x.next(bits(28), bits(26, 29)), 29);
        due("36 behind the HIT", x.next(bits(36), bits(34, 37)), 37);
        due("20 behind the EMPTY one", x.next(bits(20), bits(18, 21)), 18);
        due("12 behind the UNSEEN one", x.next(bits(12), bits(10, 13)), 10);
    }

    private static void nextCountsItself() {
        promise = "28: also itself";
        RoomsCaught x = new RoomsCaught();
        x.stand(make(x, 1, 0, 0, 0, 1, 0, 1, 1, 0), 0, 0);
        due("2 is not seen from 0, but from itself", x.next(bits(2), bits(0, 2)), 2);
        due("from 0 it is not", x.see(0, 2), 0);
        due("EMPTY itself does not count", x.next(bits(0, 2), bits(0, 2)), 2);
    }

    private static void nextIsTheLeast() {
        promise = "28: of several the least";
        RoomsCaught x = new RoomsCaught();
        for (int least = 0; least < 64; least++) {
            due("from " + least, x.next(-1, -1L << least), least);
        }
    }

    private static void nextAtTheEnds() {
        promise = "28: CELLS 0 and 63";
        RoomsCaught x = new RoomsCaught();
        due("63 alone", x.next(-1, 1L << 63), 63);
        due("0 alone", x.next(-1, 1), 0);
        due("63 is asked", x.next(1L << 63, -1), 0);
        x.stand(make(x, -1, 0, 0, 0, -1, 0, -1, -1, 0), 63, 0);
        due("63 is shut in and EMPTY", x.next(-1, 1L << 63), 63);
        due("all but 63's neighbours", x.next(1, bits(62, 63)), 63);
        due("0 sees itself, 63 does not see it", x.next(1, 1L << 63 | 1), 0);
    }
}
