/** Part 5 of the document's terms and promises 29 to 38: a method for each sentence that names an edge. */
public final class EdgesOfJoinsTest extends Checks {
    public static void main(String[] args) {
        spotsZeroToSeven();
        oneAndItself();
        byNinetyNine();
        weightsOneToFifty();
        twelveJoins();
        bitsOfNoJoins();
        noneAgree();
        joinsThatAgree();
        joinsRoundAllSpots();
        keptOfNone();
        keptOfAll();
        keptOfOne();
        keptLeastNumber();
        keptAfterMoreJoins();
        loopOfNoJoin();
        loopGoesOn();
        eightOfTheRow();
        unloopOfNone();
        spreadOfOpenRow();
        spreadOfWhich();
        missOfLoop();
        looseOneAndFifty();
        eachAsOftenAsItComes();
        lowestTerms();
        greatestMiss();
        lengthsFromTo();
        twentyLengths();
        heldFromLoToHi();
        whatOfHeld();
        spanOfNone();
        spanHundredths();
        spanJustSoMany();
        spanInAnyOrder();
        spanFarthest();
        countsOfNothing();
        countsOfAll();
        end("the edges of joins and lengths are as told");
    }

    private static void spotsZeroToSeven() {
        promise = "29: SPOTS 0 .. 7; UNKNOWN";
        for (int a = -2; a <= 9; a++) {
            for (int b = -2; b <= 9; b++) {
                RoomsCaught x = new RoomsCaught();
                boolean isIn = a >= 0 && a <= 7 && b >= 0 && b <= 7 && a != b;
                due("join(" + a + ", " + b, x.join(a, b, 1, 1), isIn ? 0 : UNKNOWN);
                due("count(6)", x.count(6), isIn ? 1 : 0);
            }
        }
        RoomsCaught x = new RoomsCaught();
        for (int far : new int[] {LEAST, -8, 8, 256, MOST}) {
            due("join(" + far + ", 0", x.join(far, 0, 1, 1), UNKNOWN);
            due("join(0, " + far, x.join(0, far, 1, 1), UNKNOWN);
        }
    }

    private static void oneAndItself() {
        promise = "29: UNKNOWN: one and itself";
        RoomsCaught x = new RoomsCaught();
        for (int spot = -1; spot <= 8; spot++) {
            due("join(" + spot + ", " + spot, x.join(spot, spot, 0, 1), UNKNOWN);
        }
        due("two of the same are no such", x.join(0, 7, 0, 1), 0);
        due("nor again", x.join(0, 7, 0, 1), 1);
        due("nor back", x.join(7, 0, 0, 1), 2);
    }

    private static void byNinetyNine() {
        promise = "29: v (-99 .. 99); OUTSIDE";
        for (int v = -102; v <= 102; v++) {
            RoomsCaught x = new RoomsCaught();
            boolean isIn = v >= -99 && v <= 99;
            due("v " + v, x.join(0, 1, v, 1), isIn ? 0 : OUTSIDE);
            due("count(6)", x.count(6), isIn ? 1 : 0);
        }
        RoomsCaught x = new RoomsCaught();
        due("least", x.join(0, 1, LEAST, 1), OUTSIDE);
        due("most", x.join(0, 1, MOST, 1), OUTSIDE);
    }

    private static void weightsOneToFifty() {
        promise = "29: a WEIGHT (1 .. 50); OUTSIDE";
        for (int weight = -2; weight <= 53; weight++) {
            RoomsCaught x = new RoomsCaught();
            boolean isIn = weight >= 1 && weight <= 50;
            due("weight " + weight, x.join(0, 1, 0, weight), isIn ? 0 : OUTSIDE);
            due("count(6)", x.count(6), isIn ? 1 : 0);
        }
        RoomsCaught x = new RoomsCaught();
        due("least", x.join(0, 1, 0, LEAST), OUTSIDE);
        due("most", x.join(0, 1, 0, MOST), OUTSIDE);
    }

    private static void twelveJoins() {
        promise = "29: JOINS (12 at most); FULL";
        RoomsCaught x = new RoomsCaught();
        for (int i = 0; i < 12; i++) {
            due("its number", x.join(0, 1, i, 1), i);
            due("count(6)", x.count(6), i + 1);
        }
        due("a 13th", x.join(0, 1, 0, 50), FULL);
        due("count(6)", x.count(6), 12);
        due("kept", x.kept(), 1);
        due("bit 12", x.agrees(4096), OUTSIDE);
        due("loop(12", x.loop(12, false), UNKNOWN);
    }

    private static void bitsOfNoJoins() {
        promise = "30: OUTSIDE: bits of no JOINS";
        RoomsCaught x = new RoomsCaught();
        for (int told = 0; told <= 12; told++) {
            due("all of " + told, x.agrees((1 << told) - 1), 1);
            for (int bit = 0; bit < 32; bit++) {
                due("bit " + bit + " of " + told, x.agrees(1 << bit), bit < told ? 1 : OUTSIDE);
            }
            due("-1", x.agrees(-1), OUTSIDE);
            due("most", x.agrees(MOST), OUTSIDE);
            if (told < 12) {
                x.join(0, 1, 5, 1);
            }
        }
    }

    private static void noneAgree() {
        promise = "30: the set of none AGREES";
        RoomsCaught x = new RoomsCaught();
        due("none told", x.agrees(0), 1);
        x.join(0, 1, 1, 1);
        x.join(0, 1, 2, 1);
        due("none of two", x.agrees(0), 1);
        due("both", x.agrees(3), 0);
    }

    private static void joinsThatAgree() {
        promise = "30: by which all its JOINS are so";
        RoomsCaught x = new RoomsCaught();
        x.join(0, 1, 5, 1);
        x.join(1, 0, -5, 1);
        x.join(1, 0, 5, 1);
        x.join(0, 1, 5, 1);
        due("there and back", x.agrees(3), 1);
        due("back by the same", x.agrees(5), 0);
        due("twice the same", x.agrees(9), 1);
        due("two back that quarrel", x.agrees(6), 0);
        due("each alone", x.agrees(4), 1);
        RoomsCaught y = new RoomsCaught();
        y.join(0, 1, 0, 1);
        y.join(1, 0, 0, 1);
        due("by nothing", y.agrees(3), 1);
        RoomsCaught z = new RoomsCaught();
        z.join(0, 1, 1, 1);
        z.join(2, 3, 1, 1);
        z.join(1, 2, 7, 1);
        z.join(0, 3, 9, 1);
        z.join(3, 0, -8, 1);
        due("two apart, then tied", z.agrees(7), 1);
        due("tied round, as it is", z.agrees(15), 1);
        due("tied round, off by 1", z.agrees(7 + 16), 0);
        due("these without the tie", z.agrees(3 + 16), 1);
    }

    private static void joinsRoundAllSpots() {
        promise = "30: all SPOTS in a round";
        RoomsCaught round = new RoomsCaught();
        for (int spot = 0; spot < 8; spot++) {
            round.join(spot, (spot + 1) % 8, spot < 4 ? 99 : -99, 50);
        }
        due("round", round.agrees(255), 1);
        due("kept", round.kept(), 255);
        RoomsCaught x = new RoomsCaught();
        for (int spot = 0; spot < 7; spot++) {
            x.join(spot, spot + 1, spot % 2 == 0 ? 99 : -99, 50);
        }
        x.join(0, 7, 98, 50);
        due("off by 1", x.agrees(255), 0);
        due("one goes, the last", x.kept(), 127);
        x.join(0, 7, 99, 50);
        due("with another", x.agrees(127 + 256), 1);
        due("kept", x.kept(), 127 + 256);
    }

    private static void keptOfNone() {
        promise = "31: KEPT of none";
        due("kept", new RoomsCaught().kept(), 0);
    }

    private static void keptOfAll() {
        promise = "31: KEPT of twelve that AGREE";
        RoomsCaught x = new RoomsCaught();
        for (int i = 0; i < 12; i++) {
            x.join(i % 7, i % 7 + 1, i % 7, i % 2 == 0 ? 1 : 50);
            due("kept of " + (i + 1), x.kept(), (2 << i) - 1);
        }
    }

    private static void keptOfOne() {
        promise = "31: KEPT of twelve that all quarrel: the greatest WEIGHT";
        for (int heavy = 0; heavy < 12; heavy++) {
            RoomsCaught x = new RoomsCaught();
            for (int i = 0; i < 12; i++) {
                x.join(3, 4, 10 * i - 60, i == heavy ? 50 : 49);
            }
            due("kept", x.kept(), 1 << heavy);
        }
    }

    private static void keptLeastNumber() {
        promise = "31: of several the least number (bits)";
        RoomsCaught x = new RoomsCaught();
        for (int i = 0; i < 12; i++) {
            x.join(0, 1, i, 7);
            due("all alike", x.kept(), 1);
        }
        RoomsCaught y = new RoomsCaught();
        y.join(0, 1, 1, 2);
        y.join(0, 1, 1, 3);
        y.join(0, 1, 2, 5);
        due("two by 5, one by 5: 3 is less than 4", y.kept(), 3);
        RoomsCaught z = new RoomsCaught();
        z.join(0, 1, 1, 5);
        z.join(0, 1, 2, 2);
        z.join(0, 1, 2, 3);
        due("one by 5, two by 5: 1 is less than 6", z.kept(), 1);
        RoomsCaught u = new RoomsCaught();
        u.join(0, 1, 1, 4);
        u.join(0, 1, 2, 4);
        u.join(0, 1, 2, 4);
        u.join(0, 1, 1, 4);
        due("6 is less than 9", u.kept(), 6);
        RoomsCaught v = new RoomsCaught();
        v.join(0, 1, 1, 10);
        v.join(1, 2, 1, 10);
        v.join(2, 0, 1, 10);
        due("of three round any two: 3", v.kept(), 3);
    }

    private static void keptAfterMoreJoins() {
        promise = "31: KEPT follows each JOIN";
        RoomsCaught x = new RoomsCaught();
        x.join(0, 1, 1, 1);
        due("one", x.kept(), 1);
        due("one again", x.kept(), 1);
        x.join(0, 1, 2, 2);
        due("a heavier", x.kept(), 2);
        due("refused", x.join(0, 1, 1, 51), OUTSIDE);
        due("the same", x.kept(), 2);
        due("agrees asked between", x.agrees(3), 0);
        due("the same", x.kept(), 2);
        x.join(0, 1, 1, 2);
        due("1 and 2 against 2", x.kept(), 5);
    }

    private static void loopOfNoJoin() {
        promise = "32: UNKNOWN";
        RoomsCaught x = new RoomsCaught();
        due("loop(0", x.loop(0, false), UNKNOWN);
        x.join(0, 1, 1, 1);
        x.join(1, 0, 1, 1);
        for (int join : new int[] {LEAST, -1, 2, 12, MOST}) {
            due("loop(" + join, x.loop(join, false), UNKNOWN);
            due("loop(" + join + " back", x.loop(join, true), UNKNOWN);
        }
        due("count(7)", x.count(7), 0);
        due("loop(1", x.loop(1, false), 1);
        due("loop(2 behind another", x.loop(2, false), UNKNOWN);
    }

    private static void loopGoesOn() {
        promise = "32: NOT: it does not begin where the one ahead ends";
        for (int first = 0; first <= 1; first++) {
            for (int second = 0; second <= 1; second++) {
                RoomsCaught x = new RoomsCaught();
                x.join(2, 5, 1, 1);
                x.join(5, 6, 1, 1);
                x.join(6, 2, 1, 1);
                due("the first begins anywhere", x.loop(0, first == 1), 1);
                // Forward it ends at 5, back at 2.
                due("5 to 6", x.loop(1, second == 1), first == 0 && second == 0 ? 2 : NOT);
                boolean wasOn = first == 0 && second == 0;
                due("6 to 2", x.loop(2, second == 1), wasOn ? 3 : first == 1 && second == 1 ? 2 : NOT);
                due("count(7)", x.count(7), wasOn ? 3 : first == 1 && second == 1 ? 2 : 1);
            }
        }
        RoomsCaught x = new RoomsCaught();
        x.join(2, 5, 1, 1);
        due("there", x.loop(0, false), 1);
        due("there again", x.loop(0, false), NOT);
        due("back", x.loop(0, true), 2);
        due("back again", x.loop(0, true), NOT);
    }

    private static void eightOfTheRow() {
        promise = "32: a row of them, 8 at most; FULL";
        RoomsCaught x = new RoomsCaught();
        x.join(0, 1, 1, 1);
        for (int i = 1; i <= 8; i++) {
            due("loop", x.loop(0, i % 2 == 0), i);
        }
        due("a ninth", x.loop(0, false), FULL);
        due("count(7)", x.count(7), 8);
        due("still closed", x.spread(7, 1), 1);
        due("unloop", x.unloop(), 8);
        due("room again", x.loop(0, true), 1);
    }

    private static void unloopOfNone() {
        promise = "33: The row has none: how many it had";
        RoomsCaught x = new RoomsCaught();
        due("none", x.unloop(), 0);
        x.join(0, 1, 1, 1);
        x.join(2, 3, 1, 1);
        x.loop(0, false);
        due("one", x.unloop(), 1);
        due("none again", x.unloop(), 0);
        due("the next begins anywhere", x.loop(1, false), 1);
        due("JOINS stay", x.count(6), 2);
    }

    private static void spreadOfOpenRow() {
        promise = "34: NOT: the row does not end where it begins, or is empty";
        RoomsCaught x = new RoomsCaught();
        x.join(0, 1, 1, 1);
        for (int part = 0; part <= 1; part++) {
            due("empty", x.spread(-1, part), LEAST);
            due("empty", x.spread(0, part), LEAST);
        }
        for (int size = 1; size <= 8; size++) {
            x.loop(0, size % 2 == 0);
            due("the MISS of " + size, x.spread(-1, 0), size % 2 == 0 ? 0 : LEAST);
            due("below of " + size, x.spread(-1, 1), size % 2 == 0 ? 1 : LEAST);
            due("the last of " + size, x.spread(size - 1, 0), size % 2 == 0 ? -1 : LEAST);
            due("the last of " + size, x.spread(size - 1, 1), size % 2 == 0 ? 1 : LEAST);
        }
        x.unloop();
        due("empty again", x.spread(-1, 0), LEAST);
    }

    private static void spreadOfWhich() {
        promise = "34: UNKNOWN: the i-th; OUTSIDE";
        RoomsCaught x = new RoomsCaught();
        x.join(0, 1, 3, 50);
        x.join(1, 0, -1, 50);
        x.loop(0, false);
        x.loop(1, false);
        for (int i : new int[] {LEAST, -2, 2, 3, 8, MOST}) {
            due("spread(" + i, x.spread(i, 0), LEAST);
            due("spread(" + i, x.spread(i, 1), LEAST);
        }
        for (int part : new int[] {LEAST, -1, 2, MOST}) {
            due("part " + part, x.spread(-1, part), LEAST);
            due("part " + part, x.spread(0, part), LEAST);
        }
        due("-1", x.spread(-1, 0), 2);
        due("0", x.spread(0, 0), 2);
        due("1", x.spread(1, 0), -2);
    }

    private static void missOfLoop() {
        promise = "34: a MISS: what they tell, back turned about, together; i -1: the MISS, 1";
        int[] misses = {8, -2, 2, -8};
        for (int backs = 0; backs < 4; backs++) {
            RoomsCaught x = new RoomsCaught();
            x.join(0, 1, 3, 50);
            x.join(0, 1, -3, 50);
            x.join(1, 0, 5, 50);
            x.join(1, 0, -5, 50);
            x.loop(backs < 2 ? 0 : 1, false);
            x.loop(backs % 2 == 0 ? 2 : 3, false);
            due("forward", x.spread(-1, 0), misses[backs]);
            due("below", x.spread(-1, 1), 1);
            x.unloop();
            x.loop(backs % 2 == 0 ? 2 : 3, true);
            x.loop(backs < 2 ? 0 : 1, true);
            due("back", x.spread(-1, 0), -misses[backs]);
            due("below", x.spread(-1, 1), 1);
        }
    }

    private static void looseOneAndFifty() {
        promise = "34: its LOOSE (50 less WEIGHT, and 1)";
        RoomsCaught x = new RoomsCaught();
        x.join(0, 1, 99, 50);
        x.join(1, 0, 99, 1);
        x.loop(0, false);
        x.loop(1, false);
        // The MISS is 198; LOOSE 1 and 50: 99 - 198 / 51 is 1617 / 17, 99 - 198 * 50 / 51 is -1617 / 17.
        due("MISS", x.spread(-1, 0), 198);
        due("0 above", x.spread(0, 0), 1617);
        due("0 below", x.spread(0, 1), 17);
        due("1 above", x.spread(1, 0), -1617);
        due("1 below", x.spread(1, 1), 17);
        RoomsCaught y = new RoomsCaught();
        y.join(0, 1, 7, 50);
        y.join(0, 1, 4, 49);
        y.loop(0, false);
        y.loop(1, true);
        // The MISS is 3; LOOSE 1 and 2: 7 - 1, -4 - 2.
        due("0", y.spread(0, 0), 6);
        due("0", y.spread(0, 1), 1);
        due("1", y.spread(1, 0), -6);
        due("1", y.spread(1, 1), 1);
    }

    private static void eachAsOftenAsItComes() {
        promise = "34: LOOSE of all JOINS of the row together (each as often as it comes)";
        RoomsCaught x = new RoomsCaught();
        x.join(0, 1, 10, 50);
        x.join(0, 1, 4, 48);
        x.loop(0, false);
        x.loop(0, true);
        x.loop(0, false);
        x.loop(1, true);
        // The MISS is 6; LOOSE 1, 1, 1 and 3.
        int[] told = {9, -11, 9, -7};
        due("MISS", x.spread(-1, 0), 6);
        for (int i = 0; i < 4; i++) {
            due("spread(" + i, x.spread(i, 0), told[i]);
            due("spread(" + i, x.spread(i, 1), 1);
        }
        RoomsCaught y = new RoomsCaught();
        y.join(0, 1, 5, 1);
        y.loop(0, true);
        y.loop(0, false);
        due("no MISS", y.spread(-1, 0), 0);
        due("as told, back", y.spread(0, 0), -5);
        due("as told", y.spread(1, 0), 5);
    }

    private static void lowestTerms() {
        promise = "34: above, below (1 or more), in lowest terms";
        RoomsCaught x = new RoomsCaught();
        x.join(0, 1, 1, 48);
        x.join(1, 2, 0, 50);
        x.join(2, 0, 0, 49);
        x.loop(0, false);
        x.loop(1, false);
        x.loop(2, false);
        // The MISS is 1; LOOSE 3, 1 and 2: 1 - 3/6, 0 - 1/6, 0 - 2/6.
        int[] above = {1, -1, -1};
        int[] below = {2, 6, 3};
        for (int i = 0; i < 3; i++) {
            due("above " + i, x.spread(i, 0), above[i]);
            due("below " + i, x.spread(i, 1), below[i]);
        }
        RoomsCaught y = new RoomsCaught();
        y.join(0, 1, 4, 50);
        y.join(1, 0, 4, 50);
        y.loop(0, false);
        y.loop(1, false);
        due("nothing, above", y.spread(0, 0), 0);
        due("nothing, below", y.spread(0, 1), 1);
    }

    private static void greatestMiss() {
        promise = "34: eight JOINS by 99 each";
        for (int sign = -1; sign <= 1; sign += 2) {
            RoomsCaught x = new RoomsCaught();
            for (int spot = 0; spot < 8; spot++) {
                x.join(spot, (spot + 1) % 8, 99 * sign, spot == 0 ? 50 : 1);
                due("loop", x.loop(spot, false), spot + 1);
            }
            // LOOSE 1 and seven times 50: 99 - 792 / 351 is 33957 / 351, or 3773 / 39.
            due("MISS", x.spread(-1, 0), 792 * sign);
            due("0 above", x.spread(0, 0), 3773 * sign);
            due("0 below", x.spread(0, 1), 39);
            // 99 - 792 * 50 / 351 is -4851 / 351, or -539 / 39.
            due("7 above", x.spread(7, 0), -539 * sign);
            due("7 below", x.spread(7, 1), 39);
        }
    }

    private static void lengthsFromTo() {
        promise = "35: from lo to hi (0 .. 999), the true one (-1 .. 999); OUTSIDE: lo above hi";
        int[] ends = {LEAST, -2, -1, 0, 1, 500, 998, 999, 1000, 1001, MOST};
        for (int lo : ends) {
            for (int hi : ends) {
                for (int truly : ends) {
                    RoomsCaught x = new RoomsCaught();
                    boolean isIn = lo >= 0 && hi <= 999 && lo <= hi && truly >= -1 && truly <= 999;
                    due("length(" + lo + ", " + hi + ", " + truly, x.length(lo, hi, truly), isIn ? 1 : OUTSIDE);
                    due("count(8)", x.count(8), isIn ? 1 : 0);
                    due("with a true one", x.held(1), isIn && truly >= 0 ? 1 : 0);
                    due("HELD", x.held(0), isIn && truly >= lo && truly <= hi ? 1 : 0);
                }
            }
        }
    }

    private static void twentyLengths() {
        promise = "35: FULL: 20";
        RoomsCaught x = new RoomsCaught();
        for (int i = 1; i <= 20; i++) {
            due("length", x.length(0, 0, 0), i);
        }
        due("a 21st", x.length(0, 0, 0), FULL);
        due("a 21st without a true one", x.length(0, 0, -1), FULL);
        due("count(8)", x.count(8), 20);
        due("HELD", x.held(0), 20);
        due("with a true one", x.held(1), 20);
    }

    private static void heldFromLoToHi() {
        promise = "36: how many have it from lo to hi";
        for (int truly = 0; truly <= 8; truly++) {
            RoomsCaught x = new RoomsCaught();
            x.length(3, 5, truly);
            due("3 to 5, truly " + truly, x.held(0), truly >= 3 && truly <= 5 ? 1 : 0);
            RoomsCaught y = new RoomsCaught();
            y.length(4, 4, truly);
            due("4 to 4, truly " + truly, y.held(0), truly == 4 ? 1 : 0);
        }
        RoomsCaught x = new RoomsCaught();
        x.length(0, 999, -1);
        due("not known", x.held(0), 0);
    }

    private static void whatOfHeld() {
        promise = "36: what 0, 1; OUTSIDE";
        RoomsCaught x = new RoomsCaught();
        x.length(0, 0, 1);
        for (int what : new int[] {LEAST, -1, 2, MOST}) {
            due("held(" + what, x.held(what), OUTSIDE);
        }
        due("held(0", x.held(0), 0);
        due("held(1", x.held(1), 1);
    }

    private static void spanOfNone() {
        promise = "37: none without any";
        RoomsCaught x = new RoomsCaught();
        due("no LENGTHS, 0", x.span(0), NONE);
        due("no LENGTHS, 100", x.span(100), NONE);
        x.length(0, 999, -1);
        due("none with a true one, 0", x.span(0), NONE);
        due("none with a true one, 100", x.span(100), NONE);
        x.length(0, 999, 0);
        due("one", x.span(100), 0);
    }

    private static void spanHundredths() {
        promise = "37: hundredths (0 .. 100); OUTSIDE";
        RoomsCaught x = new RoomsCaught();
        x.length(5, 5, 8);
        for (int hundredths = -3; hundredths <= 103; hundredths++) {
            boolean isIn = hundredths >= 0 && hundredths <= 100;
            due("span(" + hundredths, x.span(hundredths), isIn ? hundredths == 0 ? 0 : 3 : OUTSIDE);
        }
        due("least", x.span(LEAST), OUTSIDE);
        due("most", x.span(MOST), OUTSIDE);
        due("OUTSIDE ahead of none", new RoomsCaught().span(101), OUTSIDE);
    }

    /** n LENGTHS that lack 0, 1, 2 .. of the true one: k of them hold by a span of k - 1. */
    private static void spanJustSoMany() {
        promise = "37: at least so many hundredths of these";
        for (int n = 1; n <= 20; n++) {
            RoomsCaught x = new RoomsCaught();
            for (int i = 0; i < n; i++) {
                // Some lack it below, some above; the one that lacks most comes first.
                int lack = n - 1 - i;
                x.length(100, 200, i % 2 == 0 ? 100 - lack : 200 + lack);
            }
            for (int hundredths = 0; hundredths <= 100; hundredths++) {
                int w = 0;
                while (100 * (w + 1) < hundredths * n) {
                    w++;
                }
                due("span(" + hundredths + ") of " + n, x.span(hundredths), w);
            }
        }
    }

    private static void spanInAnyOrder() {
        promise = "37: the least w, in whichever order LENGTHS were told";
        int[][] orders = {{0, 1, 2, 3}, {3, 2, 1, 0}, {1, 3, 0, 2}, {2, 0, 3, 1}, {3, 0, 1, 2}, {1, 2, 3, 0}};
        int[] lacks = {0, 4, 40, 400};
        for (int[] order : orders) {
            RoomsCaught x = new RoomsCaught();
            for (int i : order) {
                x.length(500, 500, i % 2 == 0 ? 500 - lacks[i] : 500 + lacks[i]);
                x.length(0, 0, -1);
            }
            due("25", x.span(25), 0);
            due("26", x.span(26), 4);
            due("50", x.span(50), 4);
            due("51", x.span(51), 40);
            due("75", x.span(75), 40);
            due("76", x.span(76), 400);
            due("100", x.span(100), 400);
        }
    }

    private static void spanFarthest() {
        promise = "37: the least w, 999 at most";
        RoomsCaught x = new RoomsCaught();
        x.length(999, 999, 0);
        due("0", x.span(0), 0);
        due("1", x.span(1), 999);
        due("100", x.span(100), 999);
        x.length(0, 0, 999);
        due("both", x.span(51), 999);
        x.length(0, 0, 998);
        due("one by 998", x.span(33), 998);
        due("one by 998 is not 34 of 100", x.span(34), 999);
        x.length(0, 999, -1);
        due("one that is not known does not count", x.span(33), 998);
    }

    private static void countsOfNothing() {
        promise = "38: 0 .. 8; OUTSIDE";
        RoomsCaught x = new RoomsCaught();
        for (int what = -2; what <= 11; what++) {
            due("count(" + what, x.count(what), what >= 0 && what <= 8 ? 0 : OUTSIDE);
        }
        due("least", x.count(LEAST), OUTSIDE);
        due("most", x.count(MOST), OUTSIDE);
    }

    private static void countsOfAll() {
        promise = "38: counts of the most there may be";
        RoomsCaught x = new RoomsCaught();
        for (int i = 0; i < 8; i++) {
            int sweep = x.sweep();
            for (int k = 0; k < 16; k++) {
                x.hit(sweep, k % 4, k / 4 + 1, k % 10);
            }
            x.stand(sweep, 0, 0);
        }
        for (int i = 0; i < 10; i++) {
            typeOn(x, i < 9 ? "hit 0 0;" : "hit 0 0", 8 * i);
        }
        x.thing();
        for (int i = 0; i < 20; i++) {
            x.write(0, 8);
            x.length(0, 0, 0);
        }
        for (int i = 0; i < 12; i++) {
            x.join(0, 1, 0, 1);
        }
        for (int i = 0; i < 8; i++) {
            x.loop(i, i % 2 == 1);
        }
        int[] most = {8, 8, 128, 0, 160, 10, 12, 8, 20};
        for (int what = 0; what < most.length; what++) {
            due("count(" + what, x.count(what), most[what]);
        }
    }
}
