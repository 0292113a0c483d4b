/** Part 2 of the document's terms and promises 13 to 18: a method for each sentence that names an edge. */
public final class EdgesOfPlanTest extends Checks {
    public static void main(String[] args) {
        threeOrMore();
        asLongAsCanBe();
        ghostsAreNotWithThem();
        wallsInOrder();
        iOfWalls();
        cornersInRowAndColumn();
        cornersOfCrossing();
        hitsOnTwoSidesOrFour();
        doorsOfEmptyCells();
        doorsAtTheSides();
        doorsBesideGhosts();
        roomBesideGhosts();
        roomBesideEmptyAndDoors();
        roomsHangTogetherBySides();
        greatestRoom();
        mostRooms();
        roomsByLeastCells();
        noSuchRoom();
        awayByFewestDoors();
        awayTheOtherWayRound();
        doorAtTheEdge();
        doorsSideBySide();
        end("the edges of walls, doors and rooms are as told");
    }

    /** HITS just in the CELLS of one line (0 .. 7 a row, 8 .. 15 a column) that the mask tells; no GHOST. */
    private static RoomsCaught withLine(int line, int mask) {
        RoomsCaught x = new RoomsCaught();
        hitLine(x, line, mask, 0);
        return x;
    }

    /** The MIDDLE is in the next line, so that no BEAM passes through the line's CELLS or any other. */
    private static void hitLine(RoomsCaught x, int line, int mask, int middleAt) {
        int across = line % 8;
        int next = across < 4 ? 1 : -1;
        int sweep = x.sweep();
        int hits = 0;
        for (int at = 0; at < 8; at++) {
            if ((mask >> at & 1) != 0) {
                hits++;
                int along = at - middleAt;
                due("hit", line < 8 ? x.hit(sweep, along, -next, 0) : x.hit(sweep, -next, along, 0), hits);
            }
        }
        int middle = line < 8 ? 8 * (across + next) + middleAt : 8 * middleAt + across + next;
        due("stand", x.stand(sweep, middle, 0) > 0 ? 1 : 0, 1);
    }

    private static int cellOn(int line, int at) {
        return line < 8 ? 8 * line + at : 8 * at + line - 8;
    }

    private static void threeOrMore() {
        promise = "13: WALLS: 3 HIT CELLS side by side or more";
        for (int line = 0; line < 16; line++) {
            for (int from = 0; from < 8; from++) {
                for (int length = 1; from + length <= 8; length++) {
                    RoomsCaught x = withLine(line, (1 << length) - 1 << from);
                    String name = "line " + line + " from " + from + " by " + length;
                    due(name, x.wall(-1), length >= 3 ? 1 : 0);
                    due(name, x.wall(0), length >= 3 ? (line < 8 ? 0 : 1000) + 10 * cellOn(line, from) + length : NONE);
                    due(name, x.wall(1), NONE);
                    due(name, x.corners(), 0);
                }
            }
        }
    }

    private static void asLongAsCanBe() {
        promise = "13: as long as can be";
        for (int line = 0; line < 16; line++) {
            for (int mask = 0; mask < 256; mask++) {
                RoomsCaught x = withLine(line, mask);
                int walls = 0;
                int run = 0;
                for (int at = 0; at <= 8; at++) {
                    if (at < 8 && (mask >> at & 1) != 0) {
                        run++;
                    } else {
                        if (run >= 3) {
                            int told = (line < 8 ? 0 : 1000) + 10 * cellOn(line, at - run) + run;
                            due("line " + line + ", mask " + mask, x.wall(walls), told);
                            walls++;
                        }
                        run = 0;
                    }
                }
                due("line " + line + ", mask " + mask, x.wall(-1), walls);
                due("line " + line + ", mask " + mask, x.wall(walls), NONE);
            }
        }
    }

    private static void ghostsAreNotWithThem() {
        promise = "13: GHOSTS not with them";
        for (int ghost = 0; ghost < 8; ghost++) {
            RoomsCaught x = withLine(3, 255);
            due("whole", x.wall(0), 10 * 24 + 8);
            int down = make(x, 0, -2, 0);
            x.stand(down, 8 * 4 + ghost, 0);
            due("GHOST", x.cells(3), 1L << 24 + ghost);
            due("left", x.wall(0), ghost >= 3 ? 240 + ghost : 10 * (25 + ghost) + 7 - ghost);
            due("right", x.wall(1), ghost == 3 || ghost == 4 ? 10 * (25 + ghost) + 7 - ghost : NONE);
            x.part(down);
            due("whole again", x.wall(0), 10 * 24 + 8);
        }
    }

    private static void wallsInOrder() {
        promise = "13: rows first, by y, then x; then columns by x, then y";
        RoomsCaught x = new RoomsCaught();
        hitLine(x, 15, 0xFF, 3);
        hitLine(x, 8, 0xF7, 3);
        hitLine(x, 7, 0xEF, 3);
        hitLine(x, 0, 0xF7, 3);
        int[] told = {3, 44, 564, 613, 1003, 1324, 1078};
        due("how many", x.wall(-1), told.length);
        for (int i = 0; i < told.length; i++) {
            due("wall(" + i, x.wall(i), told[i]);
        }
        due("no more", x.wall(told.length), NONE);
        due("CORNERS at all four", x.corners(), bits(0, 7, 56, 63));
    }

    private static void iOfWalls() {
        promise = "13: i -1; NONE; OUTSIDE: i below -1";
        RoomsCaught x = withLine(0, 7);
        due("-1", x.wall(-1), 1);
        due("-2", x.wall(-2), OUTSIDE);
        due("least", x.wall(LEAST), OUTSIDE);
        due("0", x.wall(0), 3);
        due("1", x.wall(1), NONE);
        due("most", x.wall(MOST), NONE);
    }

    private static void cornersInRowAndColumn() {
        promise = "14: A CORNER: a CELL in a row and a column";
        for (int wide = 1; wide <= 8; wide++) {
            for (int high = 1; high <= 8; high++) {
                RoomsCaught x = new RoomsCaught();
                hitLine(x, 0, (1 << wide) - 1, 4);
                hitLine(x, 8, (1 << high) - 1, 4);
                due(wide + " wide, " + high + " high", x.corners(), wide >= 3 && high >= 3 ? 1 : 0);
                RoomsCaught y = new RoomsCaught();
                hitLine(y, 7, (1 << wide) - 1 << 8 - wide, 3);
                hitLine(y, 15, (1 << high) - 1 << 8 - high, 3);
                due(wide + " wide, " + high + " high", y.corners(), wide >= 3 && high >= 3 ? 1L << 63 : 0);
            }
        }
    }

    private static void cornersOfCrossing() {
        promise = "14: where row and column cross";
        for (int row = 0; row < 6; row++) {
            for (int column = 0; column < 6; column++) {
                // Three CELLS each; 3, 3 is one of them or makes the other line longer by one.
                RoomsCaught x = new RoomsCaught();
                hitLine(x, 3, 7 << row, row < 3 ? 7 : 0);
                hitLine(x, 8 + 3, 7 << column, column < 3 ? 7 : 0);
                boolean isHit = row >= 1 && row <= 3 || column >= 1 && column <= 3;
                boolean isIn = isHit && row <= 4 && column <= 4;
                due("row from " + row + ", column from " + column, x.corners(), isIn ? 1L << 27 : 0);
            }
        }
        RoomsCaught x = new RoomsCaught();
        hitLine(x, 0, 0xC0, 3);
        hitLine(x, 8, 0x0E, 3);
        due("6, 7, 8: side by side by number alone", x.corners(), 0);
        due("the column", x.wall(-1), 1);
    }

    /** A CELL with every set of HITS beside it: a DOOR by two just across, a ROOM by all four inside THE HALL. */
    private static void hitsOnTwoSidesOrFour() {
        promise = "15, 16: HIT ones on both sides, and none on the two others; no CELL beside that is UNSEEN or out";
        int[] dx = {-1, 1, 0, 0};
        int[] dy = {0, 0, -1, 1};
        for (int cell = 0; cell < 64; cell++) {
            for (int set = 1; set < 16; set++) {
                RoomsCaught x = new RoomsCaught();
                int one = x.sweep();
                boolean isIn = true;
                for (int side = 0; side < 4; side++) {
                    if ((set >> side & 1) != 0) {
                        x.hit(one, dx[side], dy[side], 0);
                        isIn &= inHall(cell % 8 + dx[side], cell / 8 + dy[side]);
                    }
                }
                due("stand", x.stand(one, cell, 0), isIn ? 1 : NOT);
                boolean isDoor = isIn && (set == 3 || set == 12);
                boolean isRoom = isIn && set == 15;
                String name = "cell " + cell + ", set " + set;
                due(name, x.doors(), isDoor ? 1L << cell : 0);
                due(name, x.count(3), isRoom ? 1 : 0);
                due(name, x.room(cell), isRoom ? 0 : NONE);
                due(name, x.rooms(0), isRoom ? 1L << cell : 0);
                due(name, x.away(0, 0), isRoom ? 0 : UNKNOWN);
            }
        }
    }

    private static void doorsOfEmptyCells() {
        promise = "15: A DOOR: an EMPTY CELL";
        RoomsCaught x = new RoomsCaught();
        x.stand(make(x, -1, -2, 0, 1, -2, 0), 8 * 5 + 3, 0);
        due("HIT", x.cells(2), bits(26, 28));
        due("UNSEEN between", x.doors(), 0);
        int through = make(x, 0, -4, 0);
        x.stand(through, 8 * 5 + 3, 0);
        due("EMPTY between", x.doors(), bits(27));
        int upon = make(x, 0, -1, 0);
        x.stand(upon, 8 * 4 + 3, 0);
        due("GHOST between", x.doors(), 0);
        x.part(through);
        due("HIT between", x.doors(), 0);
        due("a WALL", x.wall(0), 10 * 26 + 3);
    }

    /** The last CELL of a row and the first of the next one differ by 1, but do not lie side by side. */
    private static void doorsAtTheSides() {
        promise = "15: left and right of a CELL at the side of THE HALL";
        for (int row = 0; row < 7; row++) {
            int last = 8 * row + 7;
            RoomsCaught x = new RoomsCaught();
            x.stand(make(x, -1, 0, 0), last, 0);
            x.stand(make(x, -1, 0, 0), last + 2, 0);
            due("HIT", x.cells(2), bits(last - 1, last + 1));
            due("HIT on the left, the next row's first HIT", x.doors(), 0);
            RoomsCaught y = new RoomsCaught();
            y.stand(make(y, 1, 0, 0), last + 1, 0);
            y.stand(make(y, 1, 0, 0), last - 1, 0);
            due("HIT", y.cells(2), bits(last, last + 2));
            due("HIT on the right, the row before's last HIT", y.doors(), 0);
        }
        for (int row = 1; row < 6; row++) {
            int last = 8 * row + 7;
            RoomsCaught x = new RoomsCaught();
            x.stand(make(x, 0, -1, 0, 0, 1, 0), last, 0);
            x.stand(make(x, -1, 0, 0), last + 2, 0);
            due("above and below, the next row's first HIT", x.doors(), bits(last));
            RoomsCaught y = new RoomsCaught();
            y.stand(make(y, 0, -1, 0, 0, 1, 0), last + 1, 0);
            y.stand(make(y, 1, 0, 0), last - 1, 0);
            due("above and below, the row before's last HIT", y.doors(), bits(last + 1));
        }
    }

    private static void doorsBesideGhosts() {
        promise = "15: a GHOST is no HIT one";
        RoomsCaught x = new RoomsCaught();
        x.stand(make(x, -1, 0, 0, 1, 0, 0), 27, 0);
        due("UNSEEN on the two others", x.doors(), bits(27));
        int below = make(x, 0, 1, 0, 0, 2, 0);
        x.stand(below, 27, 0);
        due("GHOST", x.cells(3), bits(35));
        due("a GHOST on one of the two others", x.doors(), bits(27));
        x.part(below);
        int above = make(x, 0, -2, 0);
        x.stand(above, 27, 0);
        due("EMPTY on one of the two others", x.doors(), bits(27));
        int left = make(x, -2, 0, 0);
        x.stand(left, 27, 0);
        due("a GHOST on the one side", x.doors(), 0);
    }

    private static void roomBesideGhosts() {
        promise = "16: no CELL beside one of them that is a GHOST";
        int[] dx = {-1, 1, 0, 0};
        int[] dy = {0, 0, -1, 1};
        for (int side = 0; side < 4; side++) {
            RoomsCaught x = new RoomsCaught();
            x.stand(make(x, -1, 0, 0, 1, 0, 0, 0, -1, 0, 0, 1, 0), 27, 0);
            due("closed", x.count(3), 1);
            int through = make(x, 2 * dx[side], 2 * dy[side], 0);
            x.stand(through, 27, 0);
            due("a GHOST on side " + side, x.count(3), 0);
            due("room", x.room(27), NONE);
            x.part(through);
            due("closed again", x.rooms(0), bits(27));
        }
    }

    private static void roomBesideEmptyAndDoors() {
        promise = "16: sets of EMPTY CELLS, no DOORS";
        RoomsCaught x = new RoomsCaught();
        // 26 and 28 with a DOOR between; then 29 is seen behind 28, where there is no wall above.
        x.stand(make(x, -1, 0, 0, 0, -1, 0, 0, 1, 0, 1, -1, 0, 1, 1, 0, 3, 0, 0), 26, 0);
        x.stand(make(x, 0, -1, 0, 0, 1, 0), 28, 0);
        due("DOORS", x.doors(), bits(27));
        due("room of 26", x.room(26), 0);
        due("room of the DOOR", x.room(27), NONE);
        due("room of 28", x.room(28), 1);
        due("AWAY", x.away(0, 1), 1);
        x.part(1);
        due("28 is beside UNSEEN ones", x.room(28), NONE);
        due("26 is closed by a DOOR still", x.rooms(0), bits(26));
        due("one ROOM", x.count(3), 1);
    }

    private static void roomsHangTogetherBySides() {
        promise = "16: that hang together (side by side)";
        int[] around = {-1, 0, 0, 1, 0, 0, 0, -1, 0, 0, 1, 0};
        RoomsCaught x = new RoomsCaught();
        x.stand(make(x, around), 18, 0);
        x.stand(make(x, around), 27, 0);
        due("at a corner: two", x.count(3), 2);
        due("the one", x.rooms(0), bits(18));
        due("the other", x.rooms(1), bits(27));
        due("no DOOR between", x.away(0, 1), NONE);
        RoomsCaught y = new RoomsCaught();
        y.stand(make(y, -1, 0, 0, 2, 0, 0, 0, -1, 0, 0, 1, 0), 27, 0);
        y.stand(make(y, 0, -1, 0, 0, 1, 0), 28, 0);
        due("side by side: one", y.count(3), 1);
        due("both", y.rooms(0), bits(27, 28));
        RoomsCaught z = new RoomsCaught();
        z.stand(make(z, -1, 0, 0, 0, -1, 0, 0, 1, 0), 15, 0);
        z.stand(make(z, 1, 0, 0, 0, -1, 0, 0, 1, 0), 16, 0);
        due("15 and 16: side by side by number alone", z.count(3), 0);
    }

    private static void greatestRoom() {
        promise = "16: all CELLS inside as one ROOM";
        RoomsCaught x = new RoomsCaught();
        for (int i = 1; i <= 6; i++) {
            x.stand(make(x, -i, 0, 0, 7 - i, 0, 0, 0, -i, 0, 0, 7 - i, 0), 9 * i, 0);
        }
        long inside = 0x007E7E7E7E7E7E00L;
        due("EMPTY", x.cells(1), inside);
        due("one", x.count(3), 1);
        due("its CELLS", x.rooms(0), inside);
        due("DOORS", x.doors(), 0);
        due("WALLS", x.wall(-1), 4);
        due("the last", x.wall(3), 1000 + 10 * 15 + 6);
        due("CORNERS are UNSEEN", x.corners(), 0);
        due("first", x.room(9), 0);
        due("last", x.room(54), 0);
        due("a wall", x.room(8), NONE);
    }

    /** Every second CELL inside is a ROOM: 18. Six SWEEPS see the slanting rows, and HIT all that is between. */
    private static void mostRooms() {
        promise = "16: many ROOMS, numbered from 0 by their least CELLS";
        RoomsCaught x = new RoomsCaught();
        int[] hits = new int[6];
        for (int i = 1; i <= 6; i++) {
            int far = Math.min(i, 7 - i);
            make(x, far, -far, 0, -far, far, 0);
            hits[i - 1] = 2;
        }
        for (int cell = 0; cell < 64; cell++) {
            boolean isCorner = (cell % 8 == 0 || cell % 8 == 7) && (cell / 8 == 0 || cell / 8 == 7);
            if ((cell % 8 + cell / 8) % 2 == 1 && !isCorner) {
                hitFromAny(x, cell, hits);
            }
        }
        for (int i = 1; i <= 6; i++) {
            due("stand", x.stand(i - 1, 9 * i, 0), i);
        }
        due("GHOSTS", x.cells(3), 0);
        due("ROOMS", x.count(3), 18);
        int number = 0;
        for (int cell = 0; cell < 64; cell++) {
            boolean isInside = inHall(cell % 8 - 1, cell / 8 - 1) && inHall(cell % 8 + 1, cell / 8 + 1);
            if (isInside && (cell % 8 + cell / 8) % 2 == 0) {
                due("room(" + cell, x.room(cell), number);
                due("rooms(" + number, x.rooms(number), 1L << cell);
                number++;
            } else {
                due("room(" + cell, x.room(cell), NONE);
            }
        }
        due("rooms(18", x.rooms(18), 0);
        due("away(17, 17", x.away(17, 17), 0);
        due("away(0, 17", x.away(0, 17), NONE);
        due("away(0, 18", x.away(0, 18), UNKNOWN);
    }

    private static void hitFromAny(RoomsCaught x, int cell, int[] hits) {
        for (int i = 1; i <= 6; i++) {
            int dx = cell % 8 - i;
            int dy = cell / 8 - i;
            boolean isAskew = true;
            for (int n = 2; n <= 7; n++) {
                isAskew &= dx % n != 0 || dy % n != 0;
            }
            if (isAskew && hits[i - 1] < 16) {
                hits[i - 1]++;
                due("hit", x.hit(i - 1, dx, dy, 0), hits[i - 1]);
                return;
            }
        }
        due("a SWEEP for " + cell, 0, 1);
    }

    private static void roomsByLeastCells() {
        promise = "16: numbered by their least CELLS, whichever stood first";
        int[] around = {-1, 0, 0, 1, 0, 0, 0, -1, 0, 0, 1, 0};
        RoomsCaught x = new RoomsCaught();
        x.stand(make(x, around), 54, 0);
        x.stand(make(x, around), 14, 0);
        x.stand(make(x, around), 9, 0);
        due("9", x.room(9), 0);
        due("14", x.room(14), 1);
        due("54", x.room(54), 2);
        x.part(2);
        due("14 moves up", x.room(14), 0);
        due("54 moves up", x.room(54), 1);
        due("9 is none", x.room(9), NONE);
        due("rooms(2", x.rooms(2), 0);
    }

    private static void noSuchRoom() {
        promise = "16, 17, 18: UNKNOWN; 0: there is no such";
        RoomsCaught x = new RoomsCaught();
        x.stand(make(x, -1, 0, 0, 1, 0, 0, 0, -1, 0, 0, 1, 0), 27, 0);
        due("its own", x.away(0, 0), 0);
        for (int room : new int[] {LEAST, -1, 1, 64, MOST}) {
            due("rooms(" + room, x.rooms(room), 0);
            due("away(0, " + room, x.away(0, room), UNKNOWN);
            due("away(" + room + ", 0", x.away(room, 0), UNKNOWN);
            due("away of it to itself", x.away(room, room), UNKNOWN);
        }
        for (int cell : new int[] {LEAST, -1, 64, MOST}) {
            due("room(" + cell, x.room(cell), UNKNOWN);
        }
        due("room(0", x.room(0), NONE);
        due("room(63", x.room(63), NONE);
    }

    /** Nine ROOMS of a CELL each, three by three, with twelve DOORS between. */
    private static void awayByFewestDoors() {
        promise = "18: the fewest DOORS to go through";
        RoomsCaught x = new RoomsCaught();
        x.stand(make(x, 0, -1, 0, -1, 0, 0, 1, 1, 0, 5, 0, 0, 0, 5, 0, 1, -1, 0, 3, -1, 0, -1, 1, 0, -1, 3, 0), 9, 0);
        x.stand(make(x, -3, 0, 0, 3, 0, 0, 0, -3, 0, 0, 3, 0, -1, -1, 0, 1, -1, 0, -1, 1, 0, 1, 1, 0), 27, 0);
        x.stand(make(x, 0, -5, 0, -5, 0, 0, 1, 0, 0, 0, 1, 0, 1, -3, 0, 1, -1, 0, -3, 1, 0, -1, 1, 0), 45, 0);
        due("ROOMS", x.count(3), 9);
        due("DOORS", x.doors(), bits(10, 12, 17, 19, 21, 26, 28, 33, 35, 37, 42, 44));
        for (int one = 0; one < 9; one++) {
            due("rooms(" + one, x.rooms(one), 1L << 9 + 2 * (one % 3) + 16 * (one / 3));
            for (int two = 0; two < 9; two++) {
                int steps = Math.abs(one % 3 - two % 3) + Math.abs(one / 3 - two / 3);
                due("away(" + one + ", " + two, x.away(one, two), steps);
            }
        }
    }

    /** Four ROOMS around a pillar; between the first two is a wall in place of a DOOR. */
    private static void awayTheOtherWayRound() {
        promise = "18: the way round, where the short one is shut";
        RoomsCaught x = new RoomsCaught();
        x.stand(make(x, -1, -1, 0, 0, -1, 0, -1, 0, 0, -1, 1, 0, 1, 1, 0, 1, 0, 0, 0, 3, 0), 9, 0);
        x.stand(make(x, 0, 1, 0, -1, 1, 0, 1, 0, 0, 1, -1, 0, 1, -2, 0, -3, 0, 0, 0, -3, 0), 27, 0);
        due("ROOMS", x.count(3), 4);
        due("DOORS", x.doors(), bits(17, 19, 26));
        due("0 to 2", x.away(0, 2), 1);
        due("0 to 3", x.away(0, 3), 2);
        due("0 to 1", x.away(0, 1), 3);
        due("1 to 0", x.away(1, 0), 3);
        // The wall right of the last ROOM becomes a GHOST: it is no ROOM then, and no way leads through it.
        int through = make(x, 2, 0, 0);
        x.stand(through, 27, 0);
        due("ROOMS", x.count(3), 3);
        due("DOORS are the same", x.doors(), bits(17, 19, 26));
        due("0 to 2", x.away(0, 2), 1);
        due("0 to 1", x.away(0, 1), NONE);
        due("2 to 1", x.away(2, 1), NONE);
        due("to 3", x.away(0, 3), UNKNOWN);
        x.part(through);
        due("0 to 1 again", x.away(0, 1), 3);
    }

    private static void doorAtTheEdge() {
        promise = "18: a DOOR at the edge of THE HALL";
        RoomsCaught x = new RoomsCaught();
        x.stand(make(x, -1, 0, 0, 1, 0, 0), 1, 0);
        x.stand(make(x, -1, 0, 0, 1, 0, 0, 0, 1, 0), 9, 0);
        x.stand(make(x, -1, 0, 0, 1, 0, 0, 0, 1, 0, 0, -1, 0), 45, 0);
        due("DOORS", x.doors(), bits(1));
        due("ROOMS", x.count(3), 2);
        due("beside the DOOR", x.rooms(0), bits(9));
        due("no way in from there", x.away(0, 1), NONE);
        due("no way out there", x.away(1, 0), NONE);
    }

    private static void doorsSideBySide() {
        promise = "18: A DOOR JOINS the ROOMS that lie beside it";
        RoomsCaught x = new RoomsCaught();
        // A row 25 .. 28 with walls above and below: the two in the middle are DOORS, each beside one ROOM.
        x.stand(make(x, -1, 0, 0, 4, 0, 0, 0, -1, 0, 0, 1, 0, 1, -1, 0, 1, 1, 0, 2, -1, 0, 2, 1, 0, 3, -1, 0, 3, 1, 0), 25, 0);
        due("DOORS", x.doors(), bits(26, 27));
        due("ROOMS", x.count(3), 2);
        due("none", x.away(0, 1), NONE);
    }
}
