/** Part 1 of the document's terms and promises 1 to 12: a method for each sentence that names an edge. */
public final class EdgesOfSweepsTest extends Checks {
    public static void main(String[] args) {
        newObject();
        nothingIsShared();
        eightSweeps();
        sixteenHits();
        spotsOfHits();
        marksOfHits();
        oneHitAtOneSpot();
        noHitOfOneThatStands();
        fourTurns();
        hitsAtTheEdgeOfTheHall();
        cellsOfTheHall();
        standsWhateverTheOthersTell();
        partTellsWhereItStood();
        beamsOfEveryHit();
        beamOfNoHit();
        hitOrEmptyOrBoth();
        limitsAtFirst();
        limitsBothSides();
        catchesOfHits();
        needOrMore();
        needZeroAndSixteen();
        missOrFewer();
        missSixteen();
        waysOfNone();
        waysByTurnThenCell();
        waysAreInTheHall();
        iOfWays();
        quarrelsOfBeams();
        quarrelsOfMarks();
        quarrelsOfBothKinds();
        marksMoveAlong();
        marksOfOneTried();
        barsBeyondMiss();
        barsByBits();
        fitsBesideTheHall();
        whatOfFits();
        whatOfCells();
        leadByBits();
        whatOfLead();
        end("the edges of sweeps are as told");
    }

    private static void newObject() {
        promise = "1: no SWEEPS, an empty TEXT";
        RoomsCaught x = new RoomsCaught();
        for (int what = 0; what <= 8; what++) {
            due("count(" + what + ")", x.count(what), 0);
        }
        due("part(0)", x.part(0), UNKNOWN);
        due("cells(0)", x.cells(0), -1);
        for (int what = 1; what <= 3; what++) {
            due("cells(" + what + ")", x.cells(what), 0);
        }
        due("wall(-1)", x.wall(-1), 0);
        due("wall(0)", x.wall(0), NONE);
        due("corners()", x.corners(), 0);
        due("doors()", x.doors(), 0);
        due("room(0)", x.room(0), NONE);
        due("rooms(0)", x.rooms(0), 0);
        due("away(0, 0)", x.away(0, 0), UNKNOWN);
        due("fault()", x.fault(), 0);
        due("erase()", x.erase(), 0);
        due("thing()", x.thing(), NOT);
        due("fit(-1)", x.fit(-1), NOT);
        due("kept()", x.kept(), 0);
        due("agrees(0)", x.agrees(0), 1);
        due("unloop()", x.unloop(), 0);
        due("spread(-1, 0)", x.spread(-1, 0), LEAST);
        due("held(0)", x.held(0), 0);
        due("held(1)", x.held(1), 0);
        due("span(0)", x.span(0), NONE);
        due("sweep()", x.sweep(), 0);
    }

    private static void nothingIsShared() {
        promise = "1: two objects have nothing in common";
        RoomsCaught x = new RoomsCaught();
        RoomsCaught y = new RoomsCaught();
        x.stand(make(x, 1, 0, 1), 0, 0);
        x.set(0, 9);
        type(x, "hit 0 0");
        x.keep(0);
        x.join(0, 1, 1, 1);
        x.loop(0, false);
        x.length(0, 0, 0);
        for (int what = 0; what <= 8; what++) {
            due("count(" + what + ")", y.count(what), 0);
        }
        due("cells(0)", y.cells(0), -1);
        due("set(0, 9)", y.set(0, 9), 3);
        due("since(0, 1, 2)", y.since(0, 1, 2), 0);
        due("since(0, 1, 2) of the first", x.since(0, 1, 2), bits(1));
    }

    private static void eightSweeps() {
        promise = "2: SWEEPS are numbered from 0, 8 at most";
        RoomsCaught x = new RoomsCaught();
        for (int i = 0; i < 8; i++) {
            due("way of none", x.way(i, -1), UNKNOWN);
            due("sweep()", x.sweep(), i);
            due("way", x.way(i, -1), 0);
            due("without HITS, apart", x.part(i), NOT);
        }
        due("a ninth", x.sweep(), FULL);
        due("a ninth again", x.sweep(), FULL);
        due("way(8", x.way(8, -1), UNKNOWN);
        due("count(0)", x.count(0), 8);
    }

    private static void sixteenHits() {
        promise = "3: HITS (16 at most)";
        RoomsCaught x = new RoomsCaught();
        int one = x.sweep();
        int two = x.sweep();
        for (int i = 0; i < 16; i++) {
            due("hit", x.hit(one, i % 4 + 1, i / 4, 0), i + 1);
        }
        due("a 17th", x.hit(one, 1, 4, 0), FULL);
        due("count(2)", x.count(2), 16);
        due("of another", x.hit(two, 1, 4, 0), 1);
        due("count(2)", x.count(2), 17);
        due("all 16 stand", x.stand(one, 0, 0), 1);
        due("HITS in cells", Long.bitCount(x.cells(2) | x.cells(3)), 16);
    }

    private static void spotsOfHits() {
        promise = "3: x, y (-7 .. 7 each), never in its MIDDLE";
        for (int px = -9; px <= 9; px++) {
            for (int py = -9; py <= 9; py++) {
                RoomsCaught x = new RoomsCaught();
                x.sweep();
                boolean isSpot = Math.abs(px) <= 7 && Math.abs(py) <= 7 && (px != 0 || py != 0);
                due("hit(0, " + px + ", " + py, x.hit(0, px, py, 0), isSpot ? 1 : OUTSIDE);
                due("count(2)", x.count(2), isSpot ? 1 : 0);
            }
        }
        RoomsCaught x = new RoomsCaught();
        x.sweep();
        for (int far : new int[] {LEAST, LEAST + 1, -256, 256, MOST - 1, MOST}) {
            due("x " + far, x.hit(0, far, 1, 0), OUTSIDE);
            due("y " + far, x.hit(0, 1, far, 0), OUTSIDE);
        }
    }

    private static void marksOfHits() {
        promise = "3: a MARK (0: none, 1 .. 9)";
        RoomsCaught x = new RoomsCaught();
        x.sweep();
        int hits = 0;
        for (int mark = -3; mark <= 12; mark++) {
            boolean isMark = mark >= 0 && mark <= 9;
            hits += isMark ? 1 : 0;
            due("mark " + mark, x.hit(0, mark < 4 ? mark + 4 : mark - 5, mark < 4 ? 1 : 2, mark), isMark ? hits : OUTSIDE);
        }
        due("least", x.hit(0, 1, 7, LEAST), OUTSIDE);
        due("most", x.hit(0, 1, 7, MOST), OUTSIDE);
        due("count(2)", x.count(2), 10);
    }

    private static void oneHitAtOneSpot() {
        promise = "3: of two HITS none at one spot";
        RoomsCaught x = new RoomsCaught();
        int one = make(x, 1, 2, 4, 2, 1, 0, -1, 2, 0, 1, -2, 0, -1, -2, 0, -2, -1, 0);
        due("first", x.hit(one, 1, 2, 4), NOT);
        due("first with another MARK", x.hit(one, 1, 2, 5), NOT);
        due("last", x.hit(one, -2, -1, 0), NOT);
        due("one beside", x.hit(one, 2, 2, 0), 7);
        int other = x.sweep();
        due("of another SWEEP", x.hit(other, 1, 2, 5), 1);
        x.stand(other, 0, 0);
        x.stand(one, 27, 0);
        type(x, "mark 5 0 0");
        x.thing();
        // Only the other SWEEP's HIT in 17 has MARK 5, so the refused one changed none.
        due("MARK 5 in one cell", x.fit(-1), 4);
        due("there", x.fit(0), 4 * 17);
    }

    private static void noHitOfOneThatStands() {
        promise = "3: NOT: the SWEEP STANDS";
        RoomsCaught x = new RoomsCaught();
        int one = make(x, 1, 0, 0);
        x.stand(one, 0, 0);
        due("stands", x.hit(one, 2, 0, 0), NOT);
        due("count(2)", x.count(2), 1);
        x.part(one);
        due("apart again", x.hit(one, 2, 0, 0), 2);
    }

    private static void fourTurns() {
        promise = "4: TURNED by t (0 .. 3)";
        int[] cells = {8 * 5 + 4, 8 * 4 + 1, 8 + 2, 8 * 2 + 5};
        for (int turn = -2; turn <= 5; turn++) {
            RoomsCaught x = new RoomsCaught();
            int one = make(x, 1, 2, 0);
            boolean isTurn = turn >= 0 && turn <= 3;
            due("stand", x.stand(one, 27, turn), isTurn ? 1 : OUTSIDE);
            due("turned by " + turn, x.cells(2), isTurn ? 1L << cells[turn] : 0);
            due("count(1)", x.count(1), isTurn ? 1 : 0);
        }
        RoomsCaught x = new RoomsCaught();
        int one = make(x, 1, 2, 0);
        due("least", x.stand(one, 27, LEAST), OUTSIDE);
        due("most", x.stand(one, 27, MOST), OUTSIDE);
        due("fits", x.fits(one, 27, 4, 0), OUTSIDE);
        due("fits", x.fits(one, 27, -1, 0), OUTSIDE);
        due("fits", x.fits(one, 27, 3, 0), 0);
        due("bars", x.bars(one, 27, 4), OUTSIDE);
        due("bars", x.bars(one, 27, -1), OUTSIDE);
        due("bars", x.bars(one, 27, 3), 0);
    }

    /** A HIT at 7, 7 is in THE HALL from one CELL for each TURN; so the farthest of all is still caught. */
    private static void hitsAtTheEdgeOfTheHall() {
        promise = "4: NOT: a HIT is out of THE HALL";
        int[] from = {0, 7, 63, 56};
        int[] to = {63, 56, 0, 7};
        for (int turn = 0; turn < 4; turn++) {
            RoomsCaught x = new RoomsCaught();
            int one = make(x, 7, 7, 0);
            for (int cell = 0; cell < 64; cell++) {
                boolean isIn = cell == from[turn];
                due("stand(0, " + cell + ", " + turn, x.stand(one, cell, turn), isIn ? 1 : NOT);
                if (isIn) {
                    due("HIT", x.cells(2), 1L << to[turn]);
                    due("part", x.part(one), 4 * cell + turn);
                }
            }
            due("count(1)", x.count(1), 0);
        }
        hitsBesideTheHall(1, 0);
        hitsBesideTheHall(-1, 0);
        hitsBesideTheHall(0, 1);
        hitsBesideTheHall(0, -1);
        RoomsCaught x = new RoomsCaught();
        int wide = make(x, 7, 0, 0, -1, 0, 0);
        for (int cell = 0; cell < 64; cell++) {
            for (int turn = 0; turn < 4; turn++) {
                due("nine wide", x.stand(wide, cell, turn), NOT);
            }
        }
    }

    private static void hitsBesideTheHall(int dx, int dy) {
        RoomsCaught x = new RoomsCaught();
        int one = make(x, dx, dy, 0);
        for (int cell = 0; cell < 64; cell++) {
            boolean isIn = inHall(cell % 8 + dx, cell / 8 + dy);
            due("beside " + cell, x.stand(one, cell, 0), isIn ? 1 : NOT);
            if (isIn) {
                due("HIT", x.cells(2), 1L << cell + 8 * dy + dx);
                x.part(one);
            }
        }
    }

    private static void cellsOfTheHall() {
        promise = "4, 8, 9, 10, 12: CELLS 0 .. 63";
        for (int cell : new int[] {LEAST, -64, -8, -1, 64, 65, 128, MOST}) {
            RoomsCaught x = new RoomsCaught();
            int one = x.sweep();
            due("stand in " + cell, x.stand(one, cell, 0), UNKNOWN);
            due("fits in " + cell, x.fits(one, cell, 0, 0), UNKNOWN);
            due("bars in " + cell, x.bars(one, cell, 0), UNKNOWN);
            due("cell(" + cell, x.cell(cell), UNKNOWN);
            due("lead(" + cell, x.lead(cell, 0), UNKNOWN);
            due("count(1)", x.count(1), 0);
        }
        for (int cell = 0; cell < 64; cell++) {
            RoomsCaught x = new RoomsCaught();
            int one = x.sweep();
            due("fits in " + cell, x.fits(one, cell, 0, 0), 0);
            due("bars in " + cell, x.bars(one, cell, 0), 0);
            due("cell(" + cell, x.cell(cell), 0);
            due("lead(" + cell, x.lead(cell, 0), 0);
            due("stand in " + cell, x.stand(one, cell, 3), 1);
            due("part", x.part(one), 4 * cell + 3);
        }
    }

    private static void standsWhateverTheOthersTell() {
        promise = "4: A SWEEP STANDS whatever the others tell";
        RoomsCaught x = new RoomsCaught();
        x.stand(make(x, 2, 0, 1), 0, 0);
        int quarrels = make(x, 1, 0, 0, 2, 0, 2);
        due("no WAY", x.way(quarrels, -1), 0);
        due("barred", x.bars(quarrels, 0, 0), 1);
        due("stands", x.stand(quarrels, 0, 0), 2);
        for (int i = 2; i < 8; i++) {
            due("all upon one another", x.stand(make(x, 2, 0, i), 0, 0), i + 1);
        }
        due("count(1)", x.count(1), 8);
    }

    private static void partTellsWhereItStood() {
        promise = "5: where it stood (4 CELL + TURN); NOT: it is apart";
        RoomsCaught x = new RoomsCaught();
        int one = x.sweep();
        due("never stood", x.part(one), NOT);
        x.stand(one, 0, 0);
        due("least", x.part(one), 0);
        due("apart", x.part(one), NOT);
        x.stand(one, 63, 3);
        due("greatest", x.part(one), 255);
        due("apart", x.part(one), NOT);
        for (int other : new int[] {LEAST, -1, 1, 8, MOST}) {
            due("part(" + other, x.part(other), UNKNOWN);
        }
    }

    private static void beamsOfEveryHit() {
        promise = "BEAMS: all spots between MIDDLE and HIT just on the line, and the MIDDLE";
        for (int px = -7; px <= 7; px++) {
            for (int py = -7; py <= 7; py++) {
                if (px != 0 || py != 0) {
                    int middle = (px < 0 ? 7 : 0) + 8 * (py < 0 ? 7 : 0);
                    RoomsCaught x = new RoomsCaught();
                    due("stand", x.stand(make(x, px, py, 0), middle, 0), 1);
                    due("HIT of " + px + ", " + py, x.cells(2), 1L << middle + 8 * py + px);
                    due("EMPTY of " + px + ", " + py, x.cells(1), passed(middle, px, py));
                    due("GHOST of " + px + ", " + py, x.cells(3), 0);
                }
            }
        }
    }

    /** The MIDDLE and each CELL k / n of the way, for all n and k, where that is whole. */
    private static long passed(int middle, int px, int py) {
        long cells = 1L << middle;
        for (int n = 2; n <= 7; n++) {
            for (int k = 1; k < n; k++) {
                if (px * k % n == 0 && py * k % n == 0) {
                    cells |= 1L << middle + 8 * (py * k / n) + px * k / n;
                }
            }
        }
        return cells;
    }

    private static void beamOfNoHit() {
        promise = "BEAMS are to HITS: without HITS none";
        RoomsCaught x = new RoomsCaught();
        int bare = x.sweep();
        due("stands", x.stand(bare, 20, 0), 1);
        due("its MIDDLE", x.cell(20), 0);
        due("lead", x.lead(20, 1), 0);
    }

    private static void hitOrEmptyOrBoth() {
        promise = "10: HIT, EMPTY, both: GHOST, else UNSEEN";
        RoomsCaught x = new RoomsCaught();
        int near = make(x, 2, 0, 0);
        int far = make(x, 3, 0, 0);
        int back = make(x, -2, 0, 0);
        x.stand(near, 8, 0);
        due("HIT", x.cell(10), 2);
        due("EMPTY", x.cell(9), 1);
        due("the MIDDLE", x.cell(8), 1);
        due("UNSEEN", x.cell(11), 0);
        x.stand(far, 8, 0);
        due("GHOST", x.cell(10), 3);
        due("HIT", x.cell(11), 2);
        x.part(near);
        due("EMPTY again", x.cell(10), 1);
        x.part(far);
        due("UNSEEN again", x.cell(10), 0);
        x.stand(near, 8, 0);
        x.stand(back, 10, 0);
        due("the MIDDLE of one is the HIT of the other", x.cells(3), bits(8, 10));
        due("between", x.cells(1), bits(9));
        due("no HIT alone", x.cells(2), 0);
        RoomsCaught y = new RoomsCaught();
        y.stand(make(y, 1, 0, 0, 2, 0, 0), 0, 0);
        due("HIT and BEAM of one SWEEP", y.cells(3), bits(1));
    }

    private static void limitsAtFirst() {
        promise = "NEED 3 at first, MISS 0, PRICE 0";
        RoomsCaught x = new RoomsCaught();
        due("NEED", x.set(0, 5), 3);
        due("MISS", x.set(1, 6), 0);
        due("PRICE", x.set(2, 7), 0);
        due("NEED", x.set(0, 3), 5);
        due("MISS", x.set(1, 0), 6);
        due("PRICE", x.set(2, 0), 7);
    }

    private static void limitsBothSides() {
        promise = "6: NEED, MISS (0 .. 16), PRICE (0 .. 10)";
        int[] first = {3, 0, 0};
        int[] most = {16, 16, 10};
        for (int what = 0; what <= 2; what++) {
            RoomsCaught x = new RoomsCaught();
            int was = first[what];
            for (int v = -3; v <= 20; v++) {
                boolean isIn = v >= 0 && v <= most[what];
                due("set(" + what + ", " + v, x.set(what, v), isIn ? was : OUTSIDE);
                was = isIn ? v : was;
            }
            due("least", x.set(what, LEAST), OUTSIDE);
            due("most", x.set(what, MOST), OUTSIDE);
            due("nothing changed", x.set(what, 0), most[what]);
            for (int other = 0; other <= 2; other++) {
                if (other != what) {
                    due("the others", x.set(other, 0), first[other]);
                }
            }
        }
        RoomsCaught x = new RoomsCaught();
        for (int what : new int[] {LEAST, -1, 3, MOST}) {
            due("what " + what, x.set(what, 0), OUTSIDE);
        }
    }

    private static void catchesOfHits() {
        promise = "CATCHES: its HITS that are in CELLS in which a SWEEP that STANDS has a HIT";
        RoomsCaught x = new RoomsCaught();
        int one = make(x, 0, -1, 0, 1, -1, 0);
        int first = make(x, 1, 0, 0);
        int second = make(x, 1, 0, 5);
        due("none STANDS", x.fits(one, 9, 0, 0), 0);
        x.stand(first, 0, 0);
        due("one of its two", x.fits(one, 9, 0, 0), 1);
        due("an EMPTY one and the HIT one", x.fits(one, 8, 0, 0), 1);
        due("an EMPTY one and an UNSEEN one", x.fits(one, 9, 3, 0), 0);
        x.stand(second, 0, 0);
        due("a HIT that two have is caught once", x.fits(one, 9, 0, 0), 1);
        int through = make(x, 3, 0, 0);
        x.stand(through, 0, 0);
        due("a GHOST", x.cell(1), 3);
        due("a HIT that another passes through", x.fits(one, 9, 0, 0), 1);
        x.part(first);
        due("the other has it still", x.fits(one, 9, 0, 0), 1);
        x.part(second);
        due("EMPTY then", x.cell(1), 1);
        due("neither has it", x.fits(one, 9, 0, 0), 0);
        due("the HIT behind", x.fits(one, 10, 0, 0), 1);
    }

    /** A row of HITS told twice: moved by k along the row, k fewer are caught. */
    private static void needOrMore() {
        promise = "WAY: CATCHES NEED or more";
        RoomsCaught x = new RoomsCaught();
        int[] row = {0, 1, 0, 1, 1, 0, 2, 1, 0, 3, 1, 0};
        x.stand(make(x, row), 0, 0);
        int again = make(x, row);
        due("CATCHES", x.fits(again, 0, 0, 0), 4);
        due("CATCHES", x.fits(again, 1, 0, 0), 3);
        due("CATCHES", x.fits(again, 2, 0, 0), 2);
        due("CATCHES", x.fits(again, 4, 0, 0), 0);
        x.set(0, 4);
        due("just so many", hasWay(x, again, 0), 1);
        due("one fewer", hasWay(x, again, 1), 0);
        x.set(0, 3);
        due("one more", hasWay(x, again, 0), 1);
        due("just so many", hasWay(x, again, 1), 1);
        due("one fewer", hasWay(x, again, 2), 0);
        x.set(0, 5);
        due("more than it has", x.way(again, -1), 0);
    }

    /** Whether a CELL is the MIDDLE of a WAY that is not TURNED; these come first, by their CELLS. */
    private static int hasWay(RoomsCaught x, int sweep, int cell) {
        for (int i = 0; i <= cell; i++) {
            if (x.way(sweep, i) == 4 * cell) {
                return 1;
            }
        }
        return 0;
    }

    private static void needZeroAndSixteen() {
        promise = "NEED 0 and 16";
        RoomsCaught x = new RoomsCaught();
        int[] ring = new int[48];
        // Eight beside the MIDDLE and eight at a knight's leap: none lies on the way to another.
        int[] spots = {1, 0, 1, 1, 0, 1, -1, 1, -1, 0, -1, -1, 0, -1, 1, -1, 2, 1, 1, 2, -1, 2, -2, 1, -2, -1, -1, -2, 1, -2, 2, -1};
        for (int i = 0; i < 16; i++) {
            ring[3 * i] = spots[2 * i];
            ring[3 * i + 1] = spots[2 * i + 1];
        }
        x.stand(make(x, ring), 27, 0);
        int again = make(x, ring);
        due("CATCHES", x.fits(again, 27, 0, 0), 16);
        x.set(0, 16);
        due("all 16, TURNED as one likes", x.way(again, -1), 4);
        due("first", x.way(again, 0), 4 * 27);
        due("last", x.way(again, 3), 4 * 27 + 3);
        int fewer = make(x, 1, 0, 0);
        due("15 too few", x.way(fewer, -1), 0);
        x.set(0, 0);
        x.set(1, 16);
        due("NEED 0: wherever its HIT is in THE HALL", x.way(fewer, -1), 4 * 56);
    }

    private static void missOrFewer() {
        promise = "WAY: QUARRELS together with all SWEEPS that STAND MISS or fewer";
        RoomsCaught x = new RoomsCaught();
        x.set(0, 0);
        x.stand(make(x, 4, 0, 0), 0, 0);
        x.stand(make(x, 4, 0, 0), 0, 0);
        int one = make(x, 0, -1, 0, 1, -1, 0);
        // From 8 its HITS are in 0 and 1, where both that STAND pass.
        due("QUARRELS", x.fits(one, 8, 0, 1), 4);
        x.set(1, 3);
        due("one more", hasWay(x, one, 8), 0);
        x.set(1, 4);
        due("just so many", hasWay(x, one, 8), 1);
        x.set(1, 5);
        due("one fewer", hasWay(x, one, 8), 1);
    }

    private static void missSixteen() {
        promise = "MISS 16";
        RoomsCaught x = new RoomsCaught();
        x.set(0, 0);
        x.set(1, 16);
        int[] row = {0, 1, 1, 1, 1, 2, 2, 1, 3, 3, 1, 4, 4, 1, 5, 5, 1, 6, 6, 1, 7, 7, 1, 8};
        int[] otherMarks = row.clone();
        for (int i = 2; i < otherMarks.length; i += 3) {
            otherMarks[i] = 9;
        }
        x.stand(make(x, row), 0, 0);
        x.stand(make(x, row), 0, 0);
        int one = make(x, otherMarks);
        due("QUARRELS", x.fits(one, 0, 0, 1), 16);
        due("16", hasWay(x, one, 0), 1);
        due("bars", x.bars(one, 0, 0), 0);
        int base = make(x, 0, 1, 1);
        x.stand(base, 0, 0);
        due("QUARRELS", x.fits(one, 0, 0, 1), 17);
        due("17", hasWay(x, one, 0), 0);
        due("none alone bars", x.bars(one, 0, 0), 0);
    }

    private static void waysOfNone() {
        promise = "WAYS where no SWEEP STANDS, or without HITS";
        RoomsCaught x = new RoomsCaught();
        int bare = x.sweep();
        int one = make(x, 1, 0, 0);
        due("NEED 3, without HITS", x.way(bare, -1), 0);
        due("NEED 3, none STANDS", x.way(one, -1), 0);
        x.set(0, 1);
        due("NEED 1, without HITS", x.way(bare, -1), 0);
        due("NEED 1, none STANDS", x.way(one, -1), 0);
        x.set(0, 0);
        due("NEED 0, without HITS", x.way(bare, -1), 256);
        due("NEED 0, none STANDS", x.way(one, -1), 4 * 56);
    }

    private static void waysByTurnThenCell() {
        promise = "WAYS come in order by TURN, then CELL";
        RoomsCaught x = new RoomsCaught();
        x.set(0, 0);
        int bare = x.sweep();
        for (int i = 0; i < 256; i++) {
            due("way(" + i, x.way(bare, i), 4 * (i % 64) + i / 64);
        }
        due("way(256", x.way(bare, 256), NONE);
    }

    private static void waysAreInTheHall() {
        promise = "WAY: all its HITS are in THE HALL";
        RoomsCaught x = new RoomsCaught();
        x.set(0, 0);
        int far = make(x, 7, 7, 0);
        due("one a TURN", x.way(far, -1), 4);
        due("0", x.way(far, 0), 0);
        due("1", x.way(far, 1), 4 * 7 + 1);
        due("2", x.way(far, 2), 4 * 63 + 2);
        due("3", x.way(far, 3), 4 * 56 + 3);
        due("4", x.way(far, 4), NONE);
        int wide = make(x, 7, 0, 0, -1, 0, 0);
        due("nine wide", x.way(wide, -1), 0);
        due("nine wide", x.way(wide, 0), NONE);
        int eight = make(x, 6, 0, 0, -1, 0, 0);
        due("eight wide: a CELL a row, or column", x.way(eight, -1), 32);
        due("first", x.way(eight, 0), 4);
        due("last", x.way(eight, 31), 4 * 55 + 3);
    }

    private static void iOfWays() {
        promise = "7: NONE: there are not so many; OUTSIDE: i below -1";
        RoomsCaught x = new RoomsCaught();
        int bare = x.sweep();
        due("0 of none", x.way(bare, 0), NONE);
        due("how many", x.way(bare, -1), 0);
        due("-2", x.way(bare, -2), OUTSIDE);
        due("least", x.way(bare, LEAST), OUTSIDE);
        due("most", x.way(bare, MOST), NONE);
        for (int other : new int[] {LEAST, -1, 1, 8, MOST}) {
            due("way(" + other, x.way(other, -1), UNKNOWN);
        }
        x.stand(bare, 0, 0);
        due("STANDS", x.way(bare, -1), NOT);
        due("STANDS", x.way(bare, MOST), NOT);
    }

    private static void quarrelsOfBeams() {
        promise = "QUARRELS: HITS of each through which BEAMS of the other pass";
        RoomsCaught x = new RoomsCaught();
        x.stand(make(x, 3, 0, 0), 16, 0);
        // HIT 19, EMPTY 16, 17, 18.
        int up = make(x, 0, -1, 0);
        due("a HIT in the MIDDLE", x.fits(up, 24, 0, 1), 1);
        due("a HIT in the last of the BEAM", x.fits(up, 26, 0, 1), 1);
        due("a HIT in the HIT", x.fits(up, 27, 0, 1), 0);
        due("a HIT beyond", x.fits(up, 28, 0, 1), 0);
        due("the MIDDLE in the HIT", x.fits(up, 19, 0, 1), 1);
        due("a MIDDLE in a BEAM", x.fits(up, 18, 0, 1), 0);
        int over = make(x, 0, -2, 0);
        due("a BEAM through the HIT", x.fits(over, 27, 0, 1), 1);
        due("a BEAM through a BEAM", x.fits(over, 26, 0, 1), 0);
        int both = make(x, -3, 0, 0);
        due("each in the other's MIDDLE", x.fits(both, 19, 0, 1), 2);
        int bare = x.sweep();
        due("without HITS", x.fits(bare, 19, 0, 1), 0);
    }

    private static void quarrelsOfMarks() {
        promise = "QUARRELS: another MARK (none of them 0)";
        for (int mark = 0; mark <= 9; mark++) {
            for (int other = 0; other <= 9; other++) {
                RoomsCaught x = new RoomsCaught();
                x.stand(make(x, 0, 1, mark), 0, 0);
                int one = make(x, 0, 1, other);
                boolean isOther = mark != 0 && other != 0 && mark != other;
                due(mark + " and " + other, x.fits(one, 0, 0, 1), isOther ? 1 : 0);
                due(mark + " and " + other, x.fits(one, 0, 0, 0), 1);
                due(mark + " and " + other, x.bars(one, 0, 0), isOther ? 1 : 0);
            }
        }
        RoomsCaught x = new RoomsCaught();
        x.stand(make(x, 0, 1, 1), 0, 0);
        due("1 and 9", x.fits(make(x, 0, 1, 9), 0, 0, 1), 1);
        due("9 elsewhere", x.fits(make(x, 0, 1, 9), 1, 0, 1), 0);
        RoomsCaught y = new RoomsCaught();
        y.stand(make(y, 0, 1, 0, 1, 1, 3, 2, 1, 9, 3, 1, 9), 0, 0);
        due("one of four", y.fits(make(y, 0, 1, 0, 1, 1, 4, 2, 1, 9, 3, 1, 0), 0, 0, 1), 1);
        due("two of four", y.fits(make(y, 0, 1, 9, 1, 1, 3, 2, 1, 8, 3, 1, 1), 0, 0, 1), 2);
    }

    /** The document's "and" is read as a sum: a HIT may quarrel by a BEAM and by its MARK. */
    private static void quarrelsOfBothKinds() {
        promise = "QUARRELS: by a BEAM, and by a MARK";
        RoomsCaught x = new RoomsCaught();
        x.stand(make(x, 1, 0, 4, 2, 0, 0), 8, 0);
        // 9 is its HIT with MARK 4, and its own BEAM to 10 passes there.
        due("the same MARK: the BEAM alone", x.fits(make(x, 0, -1, 4), 17, 0, 1), 1);
        due("another MARK: both", x.fits(make(x, 0, -1, 5), 17, 0, 1), 2);
        due("no MARK: the BEAM alone", x.fits(make(x, 0, -1, 0), 17, 0, 1), 1);
    }

    private static void marksMoveAlong() {
        promise = "MARKS of a SWEEP are where it STANDS now, TURNED as it is now";
        int[] hits = {1, 0, 1, 0, 1, 2, -1, 0, 3, 0, -1, 4, 1, 1, 5, 2, 1, 6, 1, 2, 7, -1, 2, 8, -2, 1, 9};
        for (int turn = 0; turn < 4; turn++) {
            RoomsCaught x = new RoomsCaught();
            int one = make(x, hits);
            x.stand(one, 27, (turn + 1) % 4);
            x.part(one);
            x.stand(one, 36, turn);
            for (int mark = 1; mark <= 9; mark++) {
                int hx = hits[3 * mark - 3];
                int hy = hits[3 * mark - 2];
                int[] turnedX = {hx, -hy, -hx, hy};
                int[] turnedY = {hy, hx, -hy, -hx};
                type(x, "mark " + mark + " 0 0");
                x.thing();
                due("MARK " + mark + " in one CELL", x.fit(-1), 4);
                due("MARK " + mark, x.fit(0), 4 * (36 + 8 * turnedY[turn] + turnedX[turn]));
            }
        }
    }

    private static void marksOfOneTried() {
        promise = "8: QUARRELS of one SWEEP have nothing of another that was tried before";
        for (int mark = 1; mark <= 9; mark++) {
            RoomsCaught x = new RoomsCaught();
            x.stand(make(x, 0, 1, mark), 0, 0);
            int same = make(x, 0, 1, mark);
            int other = make(x, 0, 1, mark % 9 + 1);
            int none = make(x, 0, 1, 0);
            due("the same", x.fits(same, 0, 0, 1), 0);
            due("another", x.fits(other, 0, 0, 1), 1);
            due("none", x.fits(none, 0, 0, 1), 0);
            due("another again", x.fits(other, 0, 0, 1), 1);
            due("the same again", x.fits(same, 0, 0, 1), 0);
        }
    }

    private static void barsBeyondMiss() {
        promise = "BARS: QUARRELS with it alone are more than MISS";
        RoomsCaught x = new RoomsCaught();
        x.stand(make(x, 4, 0, 0), 0, 0);
        int one = make(x, 0, -1, 0, 1, -1, 0);
        due("2 beyond 0", x.bars(one, 8, 0), 1);
        x.set(1, 1);
        due("2 beyond 1", x.bars(one, 8, 0), 1);
        x.set(1, 2);
        due("2 not beyond 2", x.bars(one, 8, 0), 0);
        x.set(1, 0);
        due("none", x.bars(one, 40, 0), 0);
        due("a HIT out of THE HALL", x.bars(one, 0, 0), 0);
        due("a HIT out of THE HALL", x.bars(one, 15, 0), 0);
    }

    private static void barsByBits() {
        promise = "9: SWEEPS that bar that, by bits";
        RoomsCaught x = new RoomsCaught();
        int first = make(x, 0, -1, 0);
        for (int i = 1; i < 8; i++) {
            x.stand(make(x, 1, 0, 0), 0, 0);
        }
        due("seven", x.bars(first, 8, 0), 254);
        x.part(4);
        due("six", x.bars(first, 8, 0), 254 - 16);
        due("elsewhere", x.bars(first, 16, 0), 0);
        x.stand(first, 8, 0);
        due("the last alone, apart", x.part(7), 0);
        due("and now barred by the first, too", x.bars(7, 0, 0), 1);
        due("STANDS", x.bars(first, 8, 0), NOT);
        for (int other : new int[] {LEAST, -1, 8, MOST}) {
            due("bars(" + other, x.bars(other, 0, 0), UNKNOWN);
        }
    }

    private static void fitsBesideTheHall() {
        promise = "8: NONE: a HIT is out of THE HALL";
        RoomsCaught x = new RoomsCaught();
        int one = make(x, 1, 0, 0);
        for (int what = 0; what <= 1; what++) {
            due("in", x.fits(one, 62, 0, what), 0);
            due("out", x.fits(one, 63, 0, what), NONE);
            due("in, turned", x.fits(one, 63, 2, what), 0);
            due("out, turned", x.fits(one, 56, 2, what), NONE);
            due("out below", x.fits(one, 56, 1, what), NONE);
            due("out above", x.fits(one, 7, 3, what), NONE);
        }
        x.stand(one, 0, 0);
        due("STANDS", x.fits(one, 63, 0, 0), NOT);
        for (int other : new int[] {LEAST, -1, 1, 8, MOST}) {
            due("fits(" + other, x.fits(other, 0, 0, 0), UNKNOWN);
        }
    }

    private static void whatOfFits() {
        promise = "8: CATCHES (what 0), QUARRELS (1); OUTSIDE";
        RoomsCaught x = new RoomsCaught();
        x.stand(make(x, 2, 0, 0), 0, 0);
        int one = make(x, -1, 0, 0, -2, 0, 0);
        // From 3: HITS in 2 and 1; 2 is caught and passed through, 1 is passed through by the other.
        due("what 0", x.fits(one, 3, 0, 0), 1);
        due("what 1", x.fits(one, 3, 0, 1), 2);
        for (int what : new int[] {LEAST, -1, 2, MOST}) {
            due("what " + what, x.fits(one, 3, 0, what), OUTSIDE);
            due("what " + what + ", out", x.fits(one, 0, 0, what), OUTSIDE);
        }
    }

    private static void whatOfCells() {
        promise = "11: All CELLS that are so (0 .. 3); 0: another number";
        RoomsCaught x = new RoomsCaught();
        x.stand(make(x, -1, 0, 0, -2, 0, 0), 63, 0);
        due("UNSEEN", x.cells(0), ~bits(61, 62, 63));
        due("EMPTY", x.cells(1), 1L << 63);
        due("HIT", x.cells(2), bits(61));
        due("GHOST", x.cells(3), bits(62));
        for (int what : new int[] {LEAST, -1, 4, 5, MOST}) {
            due("cells(" + what, x.cells(what), 0);
        }
    }

    private static void leadByBits() {
        promise = "12: SWEEPS that have a HIT in a CELL, a BEAM through it, by bits";
        RoomsCaught x = new RoomsCaught();
        for (int i = 0; i < 8; i++) {
            x.stand(make(x, 2, 0, 0), i % 2, 0);
        }
        // The even ones from 0 to 2, the odd ones from 1 to 3.
        due("HIT", x.lead(2, 0), 0x55);
        due("BEAM", x.lead(2, 1), 0xAA);
        due("BEAM", x.lead(1, 1), 0xFF);
        due("HIT", x.lead(3, 0), 0xAA);
        due("no BEAM in its own HIT", x.lead(3, 1), 0);
        due("no HIT in the MIDDLE", x.lead(0, 0), 0);
        x.part(7);
        due("one apart", x.lead(1, 1), 0x7F);
        due("one apart", x.lead(3, 0), 0x2A);
    }

    private static void whatOfLead() {
        promise = "12: what 0, 1; OUTSIDE";
        RoomsCaught x = new RoomsCaught();
        for (int what : new int[] {LEAST, -1, 2, MOST}) {
            due("lead(0, " + what, x.lead(0, what), OUTSIDE);
            due("lead(63, " + what, x.lead(63, what), OUTSIDE);
        }
        due("lead(63, 0", x.lead(63, 0), 0);
        due("lead(63, 1", x.lead(63, 1), 0);
    }
}
