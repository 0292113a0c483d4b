/** Cases worked out by hand from the document, one method a promise or a pair of them. */
public final class PromisesTest extends Checks {
    public static void main(String[] args) {
        newObject();
        sweepAndHit();
        standAndPart();
        fullSweep();
        setLimits();
        ways();
        fitsAndBars();
        quarrels();
        cellKinds();
        leads();
        walls();
        corners();
        doors();
        threeRooms();
        openRooms();
        writing();
        faults();
        things();
        fitKinds();
        catches();
        movedPairs();
        seeing();
        nextPlace();
        joining();
        keptSets();
        loops();
        spreads();
        lengths();
        trueZero();
        counts();
        end("all promises as due");
    }

    private static void newObject() {
        promise = "1 new object";
        RoomsCaught x = new RoomsCaught();
        for (int what = 0; what <= 8; what++) {
            due("count(" + what + ")", x.count(what), 0);
        }
        due("cells(0)", x.cells(0), -1L);
        due("fault()", x.fault(), 0);
        due("set(0, 0)", x.set(0, 0), 3);
        due("set(1, 0)", x.set(1, 0), 0);
        due("set(2, 0)", x.set(2, 0), 0);
        due("fit(-1)", x.fit(-1), NOT);
        due("unloop()", x.unloop(), 0);
        due("since", x.since(0, 1, 2), 0);
    }

    private static void sweepAndHit() {
        promise = "2 sweep, 3 hit";
        RoomsCaught x = new RoomsCaught();
        due("hit of none", x.hit(0, 99, 0, 0), UNKNOWN);
        for (int i = 0; i < 8; i++) {
            due("sweep()", x.sweep(), i);
        }
        due("sweep()", x.sweep(), FULL);
        due("hit(8", x.hit(8, 1, 0, 0), UNKNOWN);
        due("hit(-1", x.hit(-1, 1, 0, 0), UNKNOWN);
        due("x 8", x.hit(0, 8, 0, 0), OUTSIDE);
        due("x -8", x.hit(0, -8, 0, 0), OUTSIDE);
        due("y 8", x.hit(0, 0, 8, 0), OUTSIDE);
        due("y -8", x.hit(0, 0, -8, 0), OUTSIDE);
        due("middle", x.hit(0, 0, 0, 1), OUTSIDE);
        due("mark 10", x.hit(0, 1, 0, 10), OUTSIDE);
        due("mark -1", x.hit(0, 1, 0, -1), OUTSIDE);
        due("least", x.hit(0, LEAST, 0, 0), OUTSIDE);
        due("most", x.hit(0, 0, MOST, 0), OUTSIDE);
        for (int i = 0; i < 16; i++) {
            due("hit", x.hit(0, i % 7 + 1, i / 7, i % 10), i + 1);
        }
        due("same spot of a full one", x.hit(0, 1, 0, 5), NOT);
        due("one too many", x.hit(0, -1, 0, 0), FULL);
        due("one too many and out", x.hit(0, -8, 0, 0), OUTSIDE);
        due("count(2)", x.count(2), 16);
        due("same spot in another", x.hit(1, 1, 0, 5), 1);
        due("-7", x.hit(1, -7, 7, 9), 2);
        due("count(2)", x.count(2), 18);
    }

    private static void standAndPart() {
        promise = "4 stand, 5 part";
        RoomsCaught x = new RoomsCaught();
        due("no sweep", x.stand(0, 0, 0), UNKNOWN);
        due("no sweep", x.part(0), UNKNOWN);
        int one = make(x, 2, 1, 0);
        due("apart", x.part(one), NOT);
        due("cell 64 ahead of turn", x.stand(one, 64, 9), UNKNOWN);
        due("cell -1", x.stand(one, -1, 0), UNKNOWN);
        due("turn 4 ahead of out", x.stand(one, 63, 4), OUTSIDE);
        due("turn -1", x.stand(one, 0, -1), OUTSIDE);
        due("out by x", x.stand(one, 6, 0), NOT);
        due("out by y", x.stand(one, 56, 0), NOT);
        due("out when turned", x.stand(one, 0, 1), NOT);
        due("turned 0", x.stand(one, 27, 0), 1);
        due("hit at 5, 4", x.cells(2), bits(37));
        due("stands", x.stand(one, 27, 0), NOT);
        due("hit of one that stands", x.hit(one, 1, 1, 0), NOT);
        due("part", x.part(one), 4 * 27);
        due("nothing", x.cells(0), -1L);
        due("turned 1: -1, 2", x.stand(one, 27, 1), 1);
        due("hit", x.cells(2), bits(8 * 5 + 2));
        due("part", x.part(one), 4 * 27 + 1);
        due("turned 2: -2, -1", x.stand(one, 27, 2), 1);
        due("hit", x.cells(2), bits(8 * 2 + 1));
        due("part", x.part(one), 4 * 27 + 2);
        due("turned 3: 1, -2", x.stand(one, 27, 3), 1);
        due("hit", x.cells(2), bits(8 + 4));
        int two = make(x, 1, 0, 0);
        due("second, upon the first's hit", x.stand(two, 12, 0), 2);
        due("count(1)", x.count(1), 2);
        due("part", x.part(one), 4 * 27 + 3);
        due("part again", x.part(one), NOT);
        due("count(1)", x.count(1), 1);
        due("hit after part", x.hit(one, 1, 1, 0), 2);
    }

    private static void fullSweep() {
        promise = "4 stand: a sweep wider than the hall";
        RoomsCaught x = new RoomsCaught();
        int one = make(x, 7, 0, 0, -1, 0, 0);
        x.set(0, 0);
        for (int cell = 0; cell < 64; cell++) {
            due("stand", x.stand(one, cell, 0), NOT);
            due("fits", x.fits(one, cell, 0, 0), NONE);
            due("bars", x.bars(one, cell, 0), 0);
        }
        due("ways", x.way(one, -1), 0);
    }

    private static void setLimits() {
        promise = "6 set";
        RoomsCaught x = new RoomsCaught();
        due("what -1", x.set(-1, 0), OUTSIDE);
        due("what 3", x.set(3, 0), OUTSIDE);
        due("need 17", x.set(0, 17), OUTSIDE);
        due("need -1", x.set(0, -1), OUTSIDE);
        due("miss 17", x.set(1, 17), OUTSIDE);
        due("price 11", x.set(2, 11), OUTSIDE);
        due("price -1", x.set(2, -1), OUTSIDE);
        due("need", x.set(0, 16), 3);
        due("need", x.set(0, 0), 16);
        due("miss", x.set(1, 16), 0);
        due("miss", x.set(1, 0), 16);
        due("price", x.set(2, 10), 0);
        due("price", x.set(2, 0), 10);
    }

    private static void ways() {
        promise = "7 way";
        RoomsCaught x = new RoomsCaught();
        due("no sweep", x.way(0, -9), UNKNOWN);
        int base = make(x, 1, 0, 0);
        x.stand(base, 0, 0);
        int one = make(x, 1, 0, 0);
        due("i -2", x.way(one, -2), OUTSIDE);
        due("i -2 of one that stands", x.way(base, -2), OUTSIDE);
        due("stands", x.way(base, -1), NOT);
        due("need 3", x.way(one, -1), 0);
        due("need 3", x.way(one, 0), NONE);
        x.set(0, 1);
        // The hit in cell 1, from the left (0, turn 0), from the right (2, turn 2), from below (9, turn 3).
        due("need 1", x.way(one, -1), 3);
        due("way 0", x.way(one, 0), 0);
        due("way 1", x.way(one, 1), 4 * 2 + 2);
        due("way 2", x.way(one, 2), 4 * 9 + 3);
        due("way 3", x.way(one, 3), NONE);
        due("way most", x.way(one, MOST), NONE);
        x.hit(one, 2, 0, 0);
        // Cell 1 hit by the nearer one: the beam to the farther goes through it then, a quarrel;
        // by the farther one: from 1's right (3, turn 2) and from below (17, turn 3).
        due("two hits", x.way(one, -1), 2);
        due("way 0", x.way(one, 0), 4 * 3 + 2);
        due("way 1", x.way(one, 1), 4 * 17 + 3);
        x.set(1, 1);
        // Now the nearer one may quarrel once: from 0 (turn 0), from 9 its farther one is out.
        due("miss 1", x.way(one, -1), 3);
        due("way 0", x.way(one, 0), 0);
    }

    private static void fitsAndBars() {
        promise = "8 fits, 9 bars";
        RoomsCaught x = new RoomsCaught();
        due("no sweep", x.fits(0, 0, 9, 9), UNKNOWN);
        due("no sweep", x.bars(0, 0, 9), UNKNOWN);
        int base = make(x, 3, 0, 0);
        int other = make(x, 0, 3, 0);
        x.stand(base, 8, 0);
        x.stand(other, 2, 0);
        // base: hit 11, beams 8, 9, 10; other: hit 26, beams 2, 10, 18.
        int one = make(x, 1, 0, 0, 2, 0, 0);
        due("cell 64", x.fits(one, 64, 9, 9), UNKNOWN);
        due("cell -1", x.bars(one, -1, 0), UNKNOWN);
        due("turn", x.fits(one, 0, 4, 0), OUTSIDE);
        due("turn", x.bars(one, 0, -1), OUTSIDE);
        due("what 2", x.fits(one, 0, 0, 2), OUTSIDE);
        due("what -1", x.fits(one, 0, 0, -1), OUTSIDE);
        due("stands, what 2", x.fits(base, 0, 0, 2), OUTSIDE);
        due("stands", x.fits(base, 0, 0, 0), NOT);
        due("stands, out", x.bars(base, 7, 0), NOT);
        due("out", x.fits(one, 6, 0, 0), NONE);
        due("out", x.fits(one, 6, 0, 1), NONE);
        due("out", x.bars(one, 6, 0), 0);
        // From 9: hits 10, 11; the beams 9, 10. 11 is caught; 10 quarrels with both.
        due("catches", x.fits(one, 9, 0, 0), 1);
        due("quarrels", x.fits(one, 9, 0, 1), 2);
        due("bars", x.bars(one, 9, 0), 3);
        x.set(1, 1);
        due("bars, miss 1", x.bars(one, 9, 0), 0);
        // From 10: hits 11, 12; beams 10, 11: the hit 11 of base is passed through.
        due("quarrels", x.fits(one, 10, 0, 1), 1);
        x.set(1, 0);
        due("bars", x.bars(one, 10, 0), 1);
        due("nothing changed", x.count(1), 2);
    }

    private static void quarrels() {
        promise = "8 quarrels by marks";
        RoomsCaught x = new RoomsCaught();
        int base = make(x, 1, 0, 4, 0, 1, 0, 1, 1, 7);
        x.stand(base, 0, 0);
        // Hits of base: 1 marked 4, 8 without mark, 9 marked 7; the middle 0.
        int same = make(x, 1, 0, 4, 0, 1, 5, 1, 1, 7);
        due("same marks, one with none", x.fits(same, 0, 0, 1), 0);
        due("catches", x.fits(same, 0, 0, 0), 3);
        int other = make(x, 1, 0, 5, 0, 1, 5, 1, 1, 8);
        due("two others", x.fits(other, 0, 0, 1), 2);
        due("bars", x.bars(other, 0, 0), 1);
        int none = make(x, 1, 0, 0, 0, 1, 5, 1, 1, 0);
        due("none", x.fits(none, 0, 0, 1), 0);
        x.stand(same, 0, 0);
        due("two sweeps, each counts", x.fits(other, 0, 0, 1), 4);
        due("bars", x.bars(other, 0, 0), 3);
        x.set(1, 3);
        due("each alone is not beyond 3", x.bars(other, 0, 0), 0);
        due("but together: no way there", x.way(other, 0) == 0 ? 1 : 0, 0);
        x.set(1, 4);
        due("then there is", x.way(other, 0), 0);
    }

    private static void cellKinds() {
        promise = "10 cell, 11 cells";
        RoomsCaught x = new RoomsCaught();
        due("cell 64", x.cell(64), UNKNOWN);
        due("cell -1", x.cell(-1), UNKNOWN);
        int one = make(x, 6, 3, 0, 2, 1, 0, 3, 2, 0);
        x.stand(one, 0, 0);
        // The beam to 6, 3 goes through 0, 0; 2, 1 and 4, 2; that to 3, 2 through no middle but its own.
        due("middle", x.cell(0), 1);
        due("ghost", x.cell(10), 3);
        due("empty", x.cell(20), 1);
        due("hit", x.cell(30), 2);
        due("hit", x.cell(19), 2);
        due("unseen", x.cell(1), 0);
        due("cells(0)", x.cells(0), ~bits(0, 10, 20, 30, 19));
        due("cells(1)", x.cells(1), bits(0, 20));
        due("cells(2)", x.cells(2), bits(30, 19));
        due("cells(3)", x.cells(3), bits(10));
        due("cells(-1)", x.cells(-1), 0);
        due("cells(4)", x.cells(4), 0);
        int bare = x.sweep();
        due("a sweep without hits", x.stand(bare, 63, 2), 2);
        due("tells nothing of its middle", x.cell(63), 0);
        due("part", x.part(bare), 4 * 63 + 2);
    }

    private static void leads() {
        promise = "12 lead";
        RoomsCaught x = new RoomsCaught();
        due("cell ahead of what", x.lead(64, 5), UNKNOWN);
        due("cell -1", x.lead(-1, 0), UNKNOWN);
        due("what 2", x.lead(0, 2), OUTSIDE);
        due("what -1", x.lead(0, -1), OUTSIDE);
        int one = make(x, 2, 0, 0);
        int two = make(x, 0, 1, 0, 3, 0, 0);
        due("apart", x.lead(2, 0), 0);
        x.stand(one, 0, 0);
        x.stand(two, 0, 0);
        due("hit", x.lead(2, 0), 1);
        due("beam", x.lead(2, 1), 2);
        due("both beams", x.lead(0, 1), 3);
        due("hit", x.lead(8, 0), 2);
        due("none", x.lead(63, 0), 0);
        x.part(two);
        due("beam gone", x.lead(2, 1), 0);
    }

    private static void walls() {
        promise = "13 wall";
        RoomsCaught x = new RoomsCaught();
        due("none", x.wall(-1), 0);
        due("i -2", x.wall(-2), OUTSIDE);
        due("wall 0", x.wall(0), NONE);
        // Row 7: all 8; row 6: two alone; column 7 above: 4, 5, 6, 7; row 5: 0 .. 2 and 4 .. 7.
        int low = make(x, -3, 1, 0, -2, 1, 0, -1, 1, 0, 0, 1, 0, 1, 1, 0, 2, 1, 0, 3, 1, 0, 4, 1, 0);
        x.stand(low, 8 * 6 + 3, 0);
        due("the whole row", x.wall(0), 10 * 56 + 8);
        due("one", x.wall(-1), 1);
        int high = make(x, 7, 1, 0, 7, -1, 0, 7, -2, 0);
        x.stand(high, 8 * 5, 0);
        // Column 7: y 3, 4, 6, 7: 5 is not hit, so no column yet.
        due("still one", x.wall(-1), 1);
        int gap = make(x, -1, 0, 0);
        x.stand(gap, 8 * 5 + 7, 2);
        due("a hit would be out", x.count(1), 2);
        int more = make(x, 1, 1, 0);
        x.stand(more, 8 * 4 + 6, 0);
        due("two", x.wall(-1), 2);
        due("column from 3 to 7", x.wall(1), 1000 + 10 * (8 * 3 + 7) + 5);
        due("none", x.wall(2), NONE);
        // A ghost in the row parts it: 0 .. 2 and 4 .. 7.
        int ghost = make(x, 7, 0, 0);
        due("stands", x.stand(ghost, 8 * 7, 0), 4);
        due("the row is all seen through but 7", x.wall(-1), 1);
        due("the column", x.wall(0), 1000 + 10 * (8 * 3 + 7) + 5);
        RoomsCaught y = new RoomsCaught();
        int two = make(y, -1, -1, 0, 0, -1, 0, 1, -1, 0, -1, 0, 0, 1, 0, 0, -1, 1, 0, 0, 1, 0, 1, 1, 0, 3, 1, 0, 4, 1, 0,
                5, 1, 0);
        y.stand(two, 9, 0);
        due("walls", y.wall(-1), 5);
        due("row 0", y.wall(0), 3);
        due("row 2 left", y.wall(1), 163);
        due("row 2 right", y.wall(2), 203);
        due("column 0", y.wall(3), 1003);
        due("column 2", y.wall(4), 1023);
    }

    private static void corners() {
        promise = "14 corners";
        RoomsCaught x = new RoomsCaught();
        due("none", x.corners(), 0);
        // A cross: row 3 from 2 to 4, column 3 from 2 to 4; seen from 5, 6 each by a beam of its own.
        int one = make(x, -3, -3, 0, -2, -3, 0, -1, -3, 0, -2, -4, 0);
        x.stand(one, 8 * 6 + 5, 0);
        // -3, -3 passes through 4, 5 and 3, 4; -2, -4 through 4, 4.
        due("hits", x.cells(2), bits(26, 27, 28, 19));
        due("a column of two only", x.corners(), 0);
        int two = make(x, -1, 1, 0);
        x.stand(two, 8 * 2 + 4, 0);
        due("no new hit", x.cells(2), bits(26, 27, 28, 19));
        int three = make(x, 0, 1, 0);
        x.stand(three, 3, 0);
        int four = make(x, 1, 1, 0);
        x.stand(four, 2, 0);
        due("3, 1 is hit", x.cell(11), 2);
        due("column 3 from 1 to 3", x.corners(), bits(27));
        // Cells 6, 7 and 8 are side by side by number, not in the hall.
        RoomsCaught y = new RoomsCaught();
        int wrap = make(y, 0, -1, 0, 1, -1, 0, -6, 0, 0, -6, 1, 0, -6, 2, 0);
        y.stand(wrap, 8 + 6, 0);
        due("hits", y.cells(2), bits(6, 7, 8, 16, 24));
        due("no row", y.wall(-1), 1);
        due("no corner", y.corners(), 0);
    }

    private static void doors() {
        promise = "15 doors";
        RoomsCaught x = new RoomsCaught();
        due("none", x.doors(), 0);
        int one = make(x, -1, 0, 0, 1, 0, 0);
        x.stand(one, 1, 0);
        due("at the edge, between left and right", x.doors(), bits(1));
        x.part(one);
        x.stand(one, 8, 1);
        due("at the edge, between above and below", x.doors(), bits(8));
        x.part(one);
        x.stand(one, 27, 0);
        due("inside", x.doors(), bits(27));
        int below = make(x, 0, 1, 0);
        x.stand(below, 27, 0);
        due("one of the two others is hit", x.doors(), 0);
        x.part(below);
        int through = make(x, -2, 0, 0);
        x.stand(through, 27, 0);
        due("one side is a ghost", x.doors(), 0);
        x.part(through);
        int onIt = make(x, 0, -1, 0);
        x.stand(onIt, 27 + 8, 0);
        due("itself a ghost", x.doors(), 0);
        // Cells 7 and 9 are not beside 8 and not beside each other.
        RoomsCaught y = new RoomsCaught();
        int edge = make(y, 1, 0, 0);
        y.stand(edge, 8, 0);
        int corner = make(y, 1, 0, 0);
        y.stand(corner, 6, 0);
        due("7 is not left of 8", y.doors(), 0);
    }

    /** Three rooms: 9; 11 and 19; 13; with doors at 10 and 12. */
    private static RoomsCaught threeRoomHall() {
        RoomsCaught x = new RoomsCaught();
        int one = make(x, -1, -1, 0, 0, -1, 0, 1, -1, 0, 2, -1, 0, 3, -1, 0, 4, -1, 0, 5, -1, 0,
                -1, 0, 0, 5, 0, 0, -1, 1, 0, 0, 1, 0, 1, 1, 0, 3, 1, 0, 4, 1, 0, 5, 1, 0);
        x.stand(one, 9, 0);
        int two = make(x, 0, 2, 0);
        x.stand(two, 11, 0);
        return x;
    }

    private static void threeRooms() {
        promise = "16 room, 17 rooms, 18 away";
        RoomsCaught x = threeRoomHall();
        due("doors", x.doors(), bits(10, 12));
        due("rooms", x.count(3), 3);
        due("room 0", x.rooms(0), bits(9));
        due("room 1", x.rooms(1), bits(11, 19));
        due("room 2", x.rooms(2), bits(13));
        due("room 3", x.rooms(3), 0);
        due("room -1", x.rooms(-1), 0);
        due("room of 9", x.room(9), 0);
        due("room of 19", x.room(19), 1);
        due("room of 13", x.room(13), 2);
        due("room of a door", x.room(10), NONE);
        due("room of a wall", x.room(0), NONE);
        due("room of an unseen one", x.room(63), NONE);
        due("room of 64", x.room(64), UNKNOWN);
        due("room of -1", x.room(-1), UNKNOWN);
        due("away 0 0", x.away(0, 0), 0);
        due("away 0 1", x.away(0, 1), 1);
        due("away 2 0", x.away(2, 0), 2);
        due("away 0 3", x.away(0, 3), UNKNOWN);
        due("away -1 0", x.away(-1, 0), UNKNOWN);
        int three = make(x, 1, 0, 0);
        x.stand(three, 9, 0);
        due("a hit in the door", x.cell(10), 3);
        due("9 lies beside a ghost, 11 too", x.count(3), 1);
        due("13 alone", x.rooms(0), bits(13));
        x.part(three);
        due("again", x.count(3), 3);
        int four = make(x, -1, -1, 0, 0, -1, 0, 1, -1, 0, -1, 0, 0, 1, 0, 0, -1, 1, 0, 0, 1, 0, 1, 1, 0);
        x.stand(four, 8 * 5 + 5, 0);
        due("a fourth by itself", x.rooms(3), bits(45));
        due("no way there", x.away(0, 3), NONE);
    }

    private static void openRooms() {
        promise = "16 rooms that are open";
        RoomsCaught x = new RoomsCaught();
        int one = make(x, 0, 1, 0, 1, 0, 0);
        x.stand(one, 0, 0);
        due("at the edge of the hall", x.count(3), 0);
        RoomsCaught y = new RoomsCaught();
        int two = make(y, 0, -1, 0, -1, 0, 0, 0, 1, 0);
        y.stand(two, 9, 0);
        due("beside one unseen", y.count(3), 0);
        int three = make(y, 1, 0, 0);
        y.stand(three, 9, 0);
        due("closed", y.count(3), 1);
        due("room", y.room(9), 0);
        // Closed by hits on all four sides, it is no door; its wall seen through makes it open.
        int four = make(y, 0, 2, 0);
        y.stand(four, 9, 0);
        due("a ghost beside it", y.count(3), 0);
    }

    private static void writing() {
        promise = "19 write, 20 erase";
        RoomsCaught x = new RoomsCaught();
        due("n 0", x.write(0, 0), OUTSIDE);
        due("n 9", x.write(0, 9), OUTSIDE);
        due("n -1", x.write(0, -1), OUTSIDE);
        for (int i = 1; i <= 19; i++) {
            due("write", x.write(-1L, 8), 8 * i);
        }
        due("write 7", x.write(0, 7), 159);
        due("2 more are too many", x.write(0, 2), FULL);
        due("n 9 of a full one", x.write(0, 9), OUTSIDE);
        due("1 more", x.write(0, 1), 160);
        due("full", x.write(0, 1), FULL);
        due("count(4)", x.count(4), 160);
        due("erase", x.erase(), 160);
        due("erase", x.erase(), 0);
        due("byte 0 comes first", x.write('h' | 'i' << 8 | 't' << 16, 3), 3);
        due("the end", x.fault(), 3);
        due("bytes above n do not count", x.write(0x7777777720L, 1), 4);
        due("the end", x.fault(), 4);
    }

    private static void fault(String text, int place) {
        RoomsCaught x = new RoomsCaught();
        type(x, text);
        due("fault of '" + text + "'", x.fault(), place);
        due("nothing changed", x.count(4), text.length());
        if (place != NONE) {
            due("thing of '" + text + "'", x.thing(), NOT);
            due("nothing changed", x.count(4), text.length());
            due("no thing", x.fit(0), NOT);
        }
    }

    private static void faults() {
        promise = "21 fault";
        fault("", 0);
        fault("   ", 3);
        fault("hit 0 0", NONE);
        fault("empty 7 7", NONE);
        fault("mark 9 7 0", NONE);
        fault("mark 1 0 7", NONE);
        fault("  hit  1   2  ;  empty 3 4  ", NONE);
        fault("hit1 2;empty3 4", NONE);
        fault("hits 0 0", 0);
        fault("hi 0 0", 0);
        fault("Hit 0 0", 0);
        fault("hitempty", 0);
        fault(";", 0);
        fault("0", 0);
        fault("hit", 3);
        fault("hit ", 4);
        fault("hit 1", 5);
        fault("hit 1 ", 6);
        fault("hit x 1", 4);
        fault("hit 8 1", 4);
        fault("hit 1 8", 6);
        fault("hit 1 9", 6);
        fault("hit 12", 4);
        fault("hit 01 1", 4);
        fault("hit 19 1", 4);
        fault("hit 1 70", 6);
        fault("hitz 1 1", 0);
        fault("ahit 1 1", 0);
        fault("xit 1 1", 0);
        fault("hix 1 1", 0);
        fault("empti 1 1", 0);
        fault("marc 1 1 1", 0);
        fault("hit 1 1a", 7);
        fault("hit 1 1 1", 8);
        fault("hit -1 1", 4);
        fault("hit 1,1", 5);
        fault("hit 1;1", 5);
        fault("hit 1 1.", 7);
        fault("hit 1 1 hit 1 1", 8);
        fault("hit 1 1;", 8);
        fault("hit 1 1; ", 9);
        fault("hit 1 1;;hit 1 1", 8);
        fault("mark 0 1 1", 5);
        fault("mark 10 1 1", 5);
        fault("mark 1 8 1", 7);
        fault("mark 1 1", 8);
        fault("mark 1 1;", 8);
        fault("hit 1\t1", 5);
        fault("hit 1 1" + (char) 0, 7);
        fault((char) 233 + "hit 1 1", 0);
        fault("hit 1 1;empty 2 2;mark 3 3 3;foo", 29);
        StringBuilder ten = new StringBuilder("hit 1 1");
        for (int i = 1; i < 10; i++) {
            ten.append(";hit 1 1");
        }
        fault(ten.toString(), NONE);
        fault(ten + ";", 79);
        fault(ten + " ; hit 9 9", 80);
    }

    private static void things() {
        promise = "22 thing";
        RoomsCaught x = new RoomsCaught();
        due("no text", x.thing(), NOT);
        type(x, "hit 0 0;empty 1 0;mark 4 2 0");
        due("lines", x.thing(), 3);
        due("text is empty", x.count(4), 0);
        due("count(5)", x.count(5), 3);
        due("no text now", x.thing(), NOT);
        due("the thing stays", x.count(5), 3);
        type(x, "hit 0 0;empty 1");
        due("fault", x.thing(), NOT);
        due("the thing stays", x.count(5), 3);
        due("the text stays", x.count(4), 15);
        due("read on", x.write(' ' | '1' << 8, 2), 17);
        due("another", x.thing(), 2);
        due("count(5)", x.count(5), 2);
    }

    private static void fitKinds() {
        promise = "23 fit";
        RoomsCaught x = new RoomsCaught();
        due("i -2 ahead of no thing", x.fit(-2), OUTSIDE);
        due("no thing", x.fit(-1), NOT);
        int one = make(x, 4, 0, 3, 2, 0, 6);
        x.stand(one, 0, 0);
        // 0 empty, 1 empty, 2 a ghost with mark 6, 3 empty, 4 hit with mark 3.
        type(x, "mark 6 0 0");
        x.thing();
        due("a mark in a ghost", x.fit(-1), 4);
        due("fit 0", x.fit(0), 4 * 2);
        due("fit 3", x.fit(3), 4 * 2 + 3);
        type(x, "hit 0 0");
        x.thing();
        due("a ghost is not hit", x.fit(-1), 4);
        due("fit 0", x.fit(0), 4 * 4);
        type(x, "empty 0 0");
        x.thing();
        due("three empty ones", x.fit(-1), 12);
        due("by turn, then cell", x.fit(3), 1);
        type(x, "mark 3 1 0");
        x.thing();
        due("turned it lies otherwise, one is out", x.fit(-1), 3);
        due("turn 0", x.fit(0), 4 * 3);
        due("turn 2", x.fit(1), 4 * 5 + 2);
        due("turn 3", x.fit(2), 4 * 12 + 3);
        due("no more", x.fit(3), NONE);
        type(x, "empty 0 0;hit 1 0");
        x.thing();
        due("one", x.fit(-1), 1);
        due("at 3", x.fit(0), 4 * 3);
        x.set(2, 1);
        // One unseen: 0 0 unseen and 1 0 at 4: from 5 (turn 2), 12 (turn 3);
        // 0 0 empty and 1 0 unseen: below 0, 1, 3 (turn 1); all else is out or seen otherwise.
        due("price 1", x.fit(-1), 6);
        due("cheapest first", x.fit(0), 4 * 3);
        due("turn 1 at 0", x.fit(1), 1000 + 1);
        due("turn 1 at 1", x.fit(2), 1000 + 4 + 1);
        due("turn 1 at 3", x.fit(3), 1000 + 4 * 3 + 1);
        due("turn 2 at 5", x.fit(4), 1000 + 4 * 5 + 2);
        due("turn 3 at 12", x.fit(5), 1000 + 4 * 12 + 3);
        due("no more", x.fit(6), NONE);
        due("most", x.fit(MOST), NONE);
    }

    private static void catches() {
        promise = "24 keep, 25 since";
        RoomsCaught x = new RoomsCaught();
        due("keep -1", x.keep(-1), UNKNOWN);
        due("keep 3", x.keep(3), UNKNOWN);
        due("keep 0", x.keep(0), 0);
        int one = make(x, 2, 0, 0, 0, 2, 0);
        int two = make(x, 4, 0, 0);
        x.stand(one, 0, 0);
        due("empty 0, 1, 8, hit 2, 16", x.keep(0), 5);
        x.part(one);
        x.stand(two, 0, 0);
        due("empty 0 .. 3, hit 4", x.keep(1), 5);
        due("gone", x.since(0, 1, 0), bits(2));
        due("new", x.since(0, 1, 1), 0);
        due("left", x.since(0, 1, 2), bits(16));
        due("gone the other way", x.since(1, 0, 0), 0);
        due("new the other way", x.since(1, 0, 1), bits(2));
        due("left the other way", x.since(1, 0, 2), bits(4));
        due("one and the same", x.since(1, 1, 0), 0);
        due("what 3", x.since(0, 1, 3), 0);
        due("what -1", x.since(0, 1, -1), 0);
        due("no catch", x.since(0, 3, 2), 0);
        due("no catch", x.since(-1, 0, 2), 0);
        due("not kept yet", x.since(0, 2, 2), bits(2, 16));
        x.stand(one, 0, 0);
        due("2 is a ghost now", x.keep(1), 7);
        due("neither gone", x.since(0, 1, 0), 0);
        due("nor left", x.since(0, 1, 2), 0);
    }

    private static void movedPairs() {
        promise = "26 moved";
        RoomsCaught x = new RoomsCaught();
        due("no catch ahead of what", x.moved(3, 0, 9), UNKNOWN);
        due("no catch", x.moved(0, -1, 0), UNKNOWN);
        due("what 2", x.moved(0, 1, 2), OUTSIDE);
        due("what -1", x.moved(0, 1, -1), OUTSIDE);
        due("none", x.moved(0, 1, 0), 0);
        due("none", x.moved(0, 1, 1), 0);
        // Eight beams in rows, first to x 1 each, then through to x 7; and one the other way.
        int near = make(x, 1, 0, 0);
        int far = make(x, 4, 0, 0);
        int nearDown = make(x, 1, 0, 0);
        int farDown = make(x, 4, 0, 0);
        x.stand(near, 0, 0);
        x.stand(farDown, 8 * 3, 0);
        x.keep(0);
        // Hit 1 and 28; empty 0, 24 .. 27.
        x.part(near);
        x.part(farDown);
        x.stand(far, 0, 0);
        x.stand(nearDown, 8 * 3, 0);
        x.keep(1);
        // Hit 4 and 25; empty 0 .. 3, 24.
        due("gone", x.since(0, 1, 0), bits(1));
        due("new", x.since(0, 1, 1), bits(25));
        due("one pair", x.moved(0, 1, 0), 1);
        due("three down", x.moved(0, 1, 1), 3);
        due("the other way", x.moved(1, 0, 1), 3);
        sevenGone();
        cornerGone();
    }

    /** The first and the last cell count as any other. */
    private static void cornerGone() {
        RoomsCaught x = new RoomsCaught();
        int ends = make(x, -1, 0, 0);
        int near = make(x, 1, 0, 0);
        x.stand(ends, 1, 0);
        x.stand(near, 62, 0);
        x.keep(0);
        x.part(ends);
        x.part(near);
        x.stand(near, 0, 0);
        x.stand(ends, 63, 0);
        x.keep(1);
        // First 0, 63 hit and 1, 62 empty, then the other way about.
        due("gone", x.since(0, 1, 0), bits(0, 63));
        due("new", x.since(0, 1, 1), bits(1, 62));
        due("two pairs", x.moved(0, 1, 0), 2);
        due("one step each", x.moved(0, 1, 1), 2);
    }

    /** Seven cells gone and one new: the new one is nearest to the seventh, which does not count. */
    private static void sevenGone() {
        RoomsCaught x = new RoomsCaught();
        int first = make(x, 0, -1, 0, 1, -1, 0, 2, -1, 0, 3, -1, 0, 4, -1, 0, 5, -1, 0, 7, 1, 0, 5, 0, 0);
        due("stands", x.stand(first, 8, 0), 1);
        due("hits", x.cells(2), bits(0, 1, 2, 3, 4, 5, 13, 23));
        due("empties", x.cells(1), bits(8, 9, 10, 11, 12));
        x.keep(0);
        x.part(first);
        int row = make(x, 6, 0, 0);
        int last = make(x, 0, 1, 0);
        int fresh = make(x, 0, -1, 0);
        x.stand(row, 0, 0);
        x.stand(last, 23, 0);
        x.stand(fresh, 20, 0);
        x.keep(1);
        due("gone", x.since(0, 1, 0), bits(0, 1, 2, 3, 4, 5, 23));
        due("new", x.since(0, 1, 1), bits(12));
        due("one pair", x.moved(0, 1, 0), 1);
        due("from 4 to 12", x.moved(0, 1, 1), 1);
        x.part(fresh);
        int other = make(x, 0, -1, 0, 1, -1, 0);
        x.stand(other, 18, 0);
        x.keep(2);
        due("new", x.since(0, 2, 1), bits(10, 11));
        due("two pairs", x.moved(0, 2, 0), 2);
        due("2 to 10, 3 to 11", x.moved(0, 2, 1), 2);
        due("the other way", x.moved(2, 0, 1), 2);
    }

    private static void seeing() {
        promise = "27 see";
        RoomsCaught x = new RoomsCaught();
        due("unknown", x.see(64, 0), UNKNOWN);
        due("unknown", x.see(0, -1), UNKNOWN);
        int one = make(x, 2, 0, 0, 2, 2, 0);
        x.stand(one, 0, 0);
        // Hit 2 and 18; empty 0, 1, 9.
        due("the hit itself", x.see(0, 2), 1);
        due("behind it", x.see(0, 3), 0);
        due("far behind it", x.see(0, 7), 0);
        due("askew", x.see(0, 63), 0);
        due("to 2, 1: no middle between", x.see(0, 10), 1);
        due("to 6, 4: 3, 2 is between", x.see(0, 38), 1);
        due("from an unseen one through 2", x.see(4, 0), 0);
        due("from 4, 0 to 0, 4: 2, 2 is hit", x.see(4, 32), 0);
        due("up through 2", x.see(34, 2), 0);
        due("itself", x.see(0, 0), 1);
        due("itself", x.see(63, 63), 1);
        due("from a hit", x.see(2, 0), NOT);
        due("from a hit to itself", x.see(2, 2), NOT);
        due("unknown ahead", x.see(2, 64), UNKNOWN);
        int two = make(x, 4, 0, 0);
        x.stand(two, 0, 0);
        due("2 is a ghost", x.see(0, 3), 0);
        due("from a ghost", x.see(2, 0), NOT);
    }

    private static void nextPlace() {
        promise = "28 next";
        RoomsCaught x = new RoomsCaught();
        due("nowhere", x.next(-1L, 0), NONE);
        due("all is seen from all", x.next(-1L, -1L), 0);
        due("the one", x.next(0, 1L << 63), 63);
        int one = make(x, 1, 0, 0, 0, 1, 0, 1, 1, 0);
        x.stand(one, 0, 0);
        // Hit 1, 8, 9: from 0 the row, the column and the diagonal are shut.
        due("0 sees none of these", x.next(bits(2, 16, 18), bits(0)), 0);
        due("10 sees two of them, 63 but 18", x.next(bits(2, 16, 18), bits(0, 63)), 63);
        due("hits are no places", x.next(-1L, bits(1, 8, 9)), NONE);
        due("a hit and another", x.next(-1L, bits(1, 0)), 0);
        due("seen ones do not count", x.next(bits(0, 1, 8, 9), bits(0, 5)), 0);
        due("itself counts", x.next(bits(7), bits(0, 7)), 7);
        due("of several the least", x.next(bits(7), bits(15, 23, 31)), 15);
    }

    private static void joining() {
        promise = "29 join, 30 agrees";
        RoomsCaught x = new RoomsCaught();
        due("itself ahead of v", x.join(3, 3, 100, 0), UNKNOWN);
        due("spot 8", x.join(8, 0, 0, 1), UNKNOWN);
        due("spot -1", x.join(0, -1, 0, 1), UNKNOWN);
        due("v 100", x.join(0, 1, 100, 1), OUTSIDE);
        due("v -100", x.join(0, 1, -100, 1), OUTSIDE);
        due("weight 0", x.join(0, 1, 0, 0), OUTSIDE);
        due("weight 51", x.join(0, 1, 0, 51), OUTSIDE);
        due("none told", x.agrees(0), 1);
        due("join", x.join(0, 1, 99, 1), 0);
        due("join", x.join(0, 1, 98, 50), 1);
        due("join", x.join(2, 3, -99, 1), 2);
        due("join", x.join(3, 1, 9, 1), 3);
        due("join", x.join(2, 0, -189, 1) == OUTSIDE ? 1 : 0, 1);
        due("join", x.join(2, 0, -90, 1), 4);
        due("two that quarrel", x.agrees(3), 0);
        due("each alone", x.agrees(1), 1);
        due("each alone", x.agrees(2), 1);
        due("apart from each other", x.agrees(5), 1);
        // 2 to 3 is -99, 3 to 1 is 9: 2 to 1 is -90; 2 to 0 is -90, 0 to 1 would be 0.
        due("with 0 by 99", x.agrees(29), 0);
        due("without", x.agrees(28), 1);
        due("bit 5", x.agrees(32), OUTSIDE);
        due("-1", x.agrees(-1), OUTSIDE);
        due("least", x.agrees(LEAST), OUTSIDE);
        for (int i = 5; i < 12; i++) {
            due("join", x.join(6, 7, i, 1), i);
        }
        due("full", x.join(6, 7, 0, 1), FULL);
        due("full and out", x.join(6, 7, 0, 99), OUTSIDE);
        due("bit 12", x.agrees(4096), OUTSIDE);
        due("bit 11", x.agrees(2048), 1);
        due("count(6)", x.count(6), 12);
    }

    private static void keptSets() {
        promise = "31 kept";
        RoomsCaught x = new RoomsCaught();
        due("none", x.kept(), 0);
        x.join(0, 1, 1, 5);
        due("one", x.kept(), 1);
        x.join(0, 1, 2, 5);
        due("of two alike the least number", x.kept(), 1);
        x.join(1, 0, -2, 1);
        due("two against one", x.kept(), 6);
        x.join(4, 5, 7, 1);
        due("and another that quarrels with none", x.kept(), 14);
        x.join(0, 1, 3, 7);
        due("a heavier one", x.kept(), 8 + 16);
        x.join(0, 1, 1, 2);
        due("7 against 7, 6: the least number has bit 5 not", x.kept(), 8 + 16);
        x.join(1, 0, -1, 1);
        due("5, 2 and 1", x.kept(), 1 + 8 + 32 + 64);
        // A triangle with the heaviest join in a quarrel with both others together.
        RoomsCaught y = new RoomsCaught();
        y.join(0, 1, 1, 20);
        y.join(1, 2, 1, 20);
        y.join(0, 2, 3, 30);
        due("one of the two goes, and the later", y.kept(), 5);
    }

    private static void loops() {
        promise = "32 loop, 33 unloop";
        RoomsCaught x = new RoomsCaught();
        due("no join", x.loop(0, false), UNKNOWN);
        x.join(0, 1, 5, 10);
        x.join(1, 2, 5, 10);
        due("-1", x.loop(-1, false), UNKNOWN);
        due("2", x.loop(2, true), UNKNOWN);
        due("back first", x.loop(1, true), 1);
        due("2 to 1, then 0 to 1", x.loop(0, false), NOT);
        due("2 to 1, then 1 to 0", x.loop(0, true), 2);
        due("then 1 to 2", x.loop(1, false), NOT);
        for (int i = 3; i <= 8; i++) {
            due("there and back", x.loop(0, i % 2 == 0), i);
        }
        due("count(7)", x.count(7), 8);
        due("unknown of a full one", x.loop(5, false), UNKNOWN);
        due("not there, of a full one", x.loop(1, false), NOT);
        due("full", x.loop(0, false), FULL);
        due("unloop", x.unloop(), 8);
        due("unloop", x.unloop(), 0);
        due("count(7)", x.count(7), 0);
    }

    private static void spreads() {
        promise = "34 spread";
        RoomsCaught x = new RoomsCaught();
        due("empty", x.spread(-1, 0), LEAST);
        due("empty", x.spread(0, 0), LEAST);
        x.join(0, 1, 10, 50);
        x.join(0, 1, 4, 50);
        x.join(1, 0, -8, 46);
        x.loop(0, false);
        due("open", x.spread(-1, 0), LEAST);
        due("open", x.spread(0, 1), LEAST);
        x.loop(1, true);
        // The miss is 10 - 4 = 6, looses 1 and 1: 10 - 3 and -4 - 3.
        due("miss", x.spread(-1, 0), 6);
        due("miss below", x.spread(-1, 1), 1);
        due("0 above", x.spread(0, 0), 7);
        due("0 below", x.spread(0, 1), 1);
        due("1 above", x.spread(1, 0), -7);
        due("1 below", x.spread(1, 1), 1);
        due("i 2", x.spread(2, 0), LEAST);
        due("i -2", x.spread(-2, 0), LEAST);
        due("part 2", x.spread(0, 2), LEAST);
        due("part -1", x.spread(-1, -1), LEAST);
        x.unloop();
        x.loop(0, false);
        x.loop(2, false);
        // The miss is 2, looses 1 and 5: 10 - 2/6 is 29/3, -8 - 10/6 is -29/3.
        due("miss", x.spread(-1, 0), 2);
        due("0 above", x.spread(0, 0), 29);
        due("0 below", x.spread(0, 1), 3);
        due("1 above", x.spread(1, 0), -29);
        due("1 below", x.spread(1, 1), 3);
        x.unloop();
        x.join(2, 3, 0, 1);
        x.loop(3, false);
        x.loop(3, true);
        due("nothing", x.spread(0, 0), 0);
        due("in lowest terms", x.spread(0, 1), 1);
    }

    private static void lengths() {
        promise = "35 length, 36 held, 37 span";
        RoomsCaught x = new RoomsCaught();
        due("none", x.span(50), NONE);
        due("101 ahead of none", x.span(101), OUTSIDE);
        due("-1", x.span(-1), OUTSIDE);
        due("lo above hi", x.length(2, 1, 0), OUTSIDE);
        due("lo -1", x.length(-1, 1, 0), OUTSIDE);
        due("hi 1000", x.length(0, 1000, 0), OUTSIDE);
        due("true -2", x.length(0, 1, -2), OUTSIDE);
        due("true 1000", x.length(0, 1, 1000), OUTSIDE);
        due("not known", x.length(0, 0, -1), 1);
        due("still none", x.span(0), NONE);
        due("held", x.held(0), 0);
        due("with a true one", x.held(1), 0);
        due("what 2", x.held(2), OUTSIDE);
        due("what -1", x.held(-1), OUTSIDE);
        due("at lo", x.length(5, 9, 5), 2);
        due("at hi", x.length(5, 9, 9), 3);
        due("all held", x.span(100), 0);
        due("far off", x.length(0, 0, 999), 4);
        due("below", x.length(7, 9, 5), 5);
        due("held", x.held(0), 2);
        due("with a true one", x.held(1), 4);
        due("0", x.span(0), 0);
        due("50", x.span(50), 0);
        due("51", x.span(51), 2);
        due("75", x.span(75), 2);
        due("76", x.span(76), 999);
        due("100", x.span(100), 999);
        for (int i = 6; i <= 20; i++) {
            due("length", x.length(0, 999, -1), i);
        }
        due("full", x.length(0, 0, 0), FULL);
        due("full and out", x.length(1, 0, 0), OUTSIDE);
        due("count(8)", x.count(8), 20);
    }

    private static void trueZero() {
        promise = "35 a true length of 0";
        RoomsCaught x = new RoomsCaught();
        due("true 0", x.length(0, 3, 0), 1);
        due("held", x.held(0), 1);
        due("with a true one", x.held(1), 1);
        due("true 0, lo 4", x.length(4, 5, 0), 2);
        due("span", x.span(100), 4);
    }

    private static void counts() {
        promise = "38 count";
        RoomsCaught x = threeRoomHall();
        x.sweep();
        type(x, "hit 0 0;hit 1 1");
        x.thing();
        type(x, "abcde");
        x.join(0, 1, 1, 1);
        x.join(1, 0, 1, 1);
        x.loop(0, false);
        x.loop(1, false);
        x.loop(0, false);
        for (int i = 0; i < 4; i++) {
            x.length(1, 2, 3);
        }
        int[] due = {3, 2, 16, 3, 5, 2, 2, 3, 4};
        for (int what = 0; what < due.length; what++) {
            due("count(" + what + ")", x.count(what), due[what]);
        }
        due("9", x.count(9), OUTSIDE);
        due("-1", x.count(-1), OUTSIDE);
    }
}
