/** Part 3 of the document's terms and promises 19 to 23: a method for each sentence that names an edge. */
public final class EdgesOfThingsTest extends Checks {
    public static void main(String[] args) {
        oneToEightBytes();
        byteByByte();
        hundredAndSixtyBytes();
        eraseOfNothing();
        numbersOfLines();
        numbersOfOneDigit();
        everyByteAhead();
        everyByteBehind();
        everyByteAsNumber();
        everyByteAsWord();
        everyByteBehindWord();
        wordsAsWritten();
        blanksBetween();
        endTooSoon();
        faultAtTheLength();
        tenLines();
        firstFaultOfTwo();
        faultChangesNothing();
        thingAndText();
        thingIsKept();
        noThing();
        iOfFits();
        fitsInTheHall();
        fitsByTurnAndCell();
        hitEmptyMark();
        marksThatStand();
        priceAtMost();
        priceTen();
        oneLineUnmet();
        fitsByCost();
        end("the edges of texts and things are as told");
    }

    private static String times(int n, String text) {
        StringBuilder all = new StringBuilder();
        for (int i = 0; i < n; i++) {
            all.append(text);
        }
        return all.toString();
    }

    private static void fault(String text, int place) {
        RoomsCaught x = new RoomsCaught();
        type(x, text);
        due("fault of '" + text + "'", x.fault(), place);
        if (place != NONE) {
            due("thing of '" + text + "'", x.thing(), NOT);
            due("fit", x.fit(-1), NOT);
            due("bytes", x.count(4), text.length());
        } else {
            due("thing of '" + text + "'", x.thing() >= 1 ? 1 : 0, 1);
            due("bytes", x.count(4), 0);
        }
    }

    private static void oneToEightBytes() {
        promise = "19: n (1 .. 8) bytes; OUTSIDE";
        RoomsCaught x = new RoomsCaught();
        int had = 0;
        for (int n = -3; n <= 12; n++) {
            boolean isIn = n >= 1 && n <= 8;
            had += isIn ? n : 0;
            due("write(.., " + n, x.write(0, n), isIn ? had : OUTSIDE);
            due("count(4)", x.count(4), had);
        }
        due("least", x.write(-1, LEAST), OUTSIDE);
        due("most", x.write(-1, MOST), OUTSIDE);
        due("count(4)", x.count(4), 36);
    }

    private static void byteByByte() {
        promise = "19: byte i being bytes >> 8 i & 255";
        String line = "mark 9 7 0;empty 0 7 ;  hit 3 4";
        for (int n = 1; n <= 8; n++) {
            RoomsCaught x = new RoomsCaught();
            for (int from = 0; from < line.length(); from += n) {
                int some = Math.min(n, line.length() - from);
                // What is above the n bytes does not count.
                long above = some == 8 ? 0 : -1L << 8 * some;
                due("write", x.write(bytesOf(line.substring(from, from + some)) | above, some), from + some);
            }
            due("fault by " + n, x.fault(), NONE);
            due("thing by " + n, x.thing(), 3);
        }
        RoomsCaught x = new RoomsCaught();
        due("the last byte has the sign", x.write(bytesOf("hit 1 1") | 0xA0L << 56, 8), 8);
        due("it is 160, not 32", x.fault(), 7);
    }

    private static void hundredAndSixtyBytes() {
        promise = "19: 160 at most; FULL";
        for (int n = 1; n <= 8; n++) {
            RoomsCaught x = new RoomsCaught();
            typeOn(x, times(160 - n, " "), 0);
            due("just 160, by " + n, x.write(bytesOf("        "), n), 160);
            due("and one", x.write(0, 1), FULL);
            due("and 8", x.write(0, 8), FULL);
            due("count(4)", x.count(4), 160);
            RoomsCaught y = new RoomsCaught();
            typeOn(y, times(161 - n, " "), 0);
            due("one too many, by " + n, y.write(bytesOf("hit 1 1;"), n), FULL);
            due("count(4)", y.count(4), 161 - n);
            due("nothing of it is written", y.fault(), 161 - n);
        }
    }

    private static void eraseOfNothing() {
        promise = "20: how many bytes it had";
        RoomsCaught x = new RoomsCaught();
        due("none", x.erase(), 0);
        x.write(0, 1);
        due("one", x.erase(), 1);
        due("none again", x.erase(), 0);
        typeOn(x, times(160, "a"), 0);
        due("160", x.erase(), 160);
        due("room again", x.write(0, 8), 8);
        due("count(4)", x.count(4), 8);
    }

    private static void numbersOfLines() {
        promise = "21: X, Y 0 .. 7, M 1 .. 9";
        for (int digit = 0; digit <= 9; digit++) {
            fault("hit " + digit + " 0", digit <= 7 ? NONE : 4);
            fault("hit 7 " + digit, digit <= 7 ? NONE : 6);
            fault("empty " + digit + " 7", digit <= 7 ? NONE : 6);
            fault("empty 0 " + digit, digit <= 7 ? NONE : 8);
            fault("mark " + digit + " 0 7", digit >= 1 ? NONE : 5);
            fault("mark 1 " + digit + " 0", digit <= 7 ? NONE : 7);
            fault("mark 9 7 " + digit, digit <= 7 ? NONE : 9);
        }
    }

    private static void numbersOfOneDigit() {
        promise = "21: numbers of 1 digit";
        for (int number = 0; number <= 99; number++) {
            String two = "" + number / 10 + number % 10;
            fault("hit " + two + " 1", 4);
            fault("hit 1 " + two, 6);
            fault("mark " + two + " 1 1", 5);
            fault("empty 1 " + two, 8);
        }
        fault("hit 000 1", 4);
        fault("hit 1 " + times(154, "0"), 6);
        fault("hit 1 4294967297", 6);
    }

    private static void everyByteAhead() {
        promise = "21: any byte ahead of a LINE";
        for (int b = 0; b < 256; b++) {
            fault((char) b + "hit 1 2", b == 32 ? NONE : 0);
            // A byte that is no letter, digit or blank ends the LINE ahead only if it is 59.
            fault("hit 1 2;" + (char) b + "hit 1 2", b == 32 ? NONE : 8);
        }
    }

    private static void everyByteBehind() {
        promise = "21: any byte behind a LINE";
        for (int b = 0; b < 256; b++) {
            boolean isDigit = b >= 48 && b <= 57;
            fault("hit 1 2" + (char) b, b == 32 ? NONE : b == 59 ? 8 : isDigit ? 6 : 7);
            fault("hit 1 2 " + (char) b, b == 32 ? NONE : b == 59 ? 9 : 8);
            fault("hit 1 2" + (char) b + "hit 1 2", b == 59 ? NONE : b == 32 ? 8 : isDigit ? 6 : 7);
        }
    }

    private static void everyByteAsNumber() {
        promise = "21: any byte in place of a number";
        for (int b = 0; b < 256; b++) {
            boolean isIn = b >= 48 && b <= 55;
            fault("hit " + (char) b + " 2", isIn ? NONE : b == 32 ? 7 : 4);
            fault("hit 2 " + (char) b, isIn ? NONE : b == 32 ? 7 : 6);
            fault("mark " + (char) b + " 2 2", b >= 49 && b <= 57 ? NONE : b == 32 ? 10 : 5);
        }
    }

    private static void everyByteAsWord() {
        promise = "21: any byte in place of a letter";
        for (int b = 0; b < 256; b++) {
            fault("h" + (char) b + "t 1 2", b == 'i' ? NONE : 0);
            fault("empt" + (char) b + " 1 2", b == 'y' ? NONE : 0);
            fault((char) b + "ark 1 2 3", b == 'm' ? NONE : b == 32 ? 1 : 0);
        }
    }

    private static void everyByteBehindWord() {
        promise = "21: a TOKEN: a row of small letters, a row of digits, any other byte";
        for (int b = 0; b < 256; b++) {
            boolean isLetter = b >= 'a' && b <= 'z';
            boolean isDigit = b >= '0' && b <= '9';
            // A letter makes the word longer; a digit is X already, and the third number is one too many.
            fault("hit" + (char) b + " 1 2", b == 32 ? NONE : isLetter ? 0 : isDigit && b <= '7' ? 7 : 3);
            fault((char) b + "mark 1 2 3", b == 32 ? NONE : 0);
            fault("mark " + (char) b + "1 2 3", b == 32 ? NONE : 5);
            fault("mark 1" + (char) b + " 2 3", b == 32 ? NONE : isDigit ? 5 : 6);
        }
    }

    private static void wordsAsWritten() {
        promise = "21: hit, empty, mark: as written here";
        for (String word : new String[] {"h", "hi", "hitt", "it", "e", "empt", "emptyy", "m", "mar", "marks", "HIT", "Empty",
            "hitempty", "hithit", "unseen", "ghost", "a", "z"}) {
            fault(word + " 1 1", 0);
            fault("hit 1 1;" + word + " 1 1", 8);
        }
        fault("hit 1 1 1", 8);
        fault("empty 1 1 1", 10);
        fault("mark 1 1 1 1", 11);
        fault("mark 1 1", 8);
        fault("hit 1 1.", 7);
        fault("empty 1, 1", 7);
        fault("hit -1 1", 4);
        fault("hit +1 1", 4);
        fault("hit hit 1 1", 4);
        fault("1 hit 1", 0);
    }

    private static void blanksBetween() {
        promise = "21: blanks (32) between";
        fault(" hit 1 1", NONE);
        fault("hit 1 1 ", NONE);
        fault("  hit   1    1  ;   empty 1 1   ", NONE);
        fault("hit 1 1;empty 1 1", NONE);
        fault("hit1 1", NONE);
        fault("hit 11", 4);
        fault("hit\t1 1", 3);
        fault("hit\n1 1", 3);
        fault("h it 1 1", 0);
        fault("mark1 1 1", NONE);
    }

    private static void endTooSoon() {
        promise = "21: or at the end, if it comes too soon";
        String whole = "mark 1 2 3;empty 4 5";
        int[] places = {0, 0, 0, 0, 4, 5, 6, 7, 8, 9, NONE, 11, 11, 11, 11, 11, 16, 17, 18, 19, NONE};
        for (int length = 0; length <= whole.length(); length++) {
            fault(whole.substring(0, length), places[length]);
        }
    }

    private static void faultAtTheLength() {
        promise = "21: the byte with which the TOKEN begins, or the length";
        for (int n : new int[] {0, 1, 7, 8, 9, 159, 160}) {
            fault(times(n, " "), n);
        }
        fault("hit 1 1;" + times(152, " "), 160);
        fault("hit 1 1" + times(153, " "), NONE);
        fault(times(153, " ") + "hit 1 1", NONE);
        fault(times(154, " ") + "hit 1 ", 160);
        fault(times(152, " ") + "hit 1 1;", 160);
        fault(times(152, " ") + "hit 1 1,", 159);
        fault(times(160, "a"), 0);
        fault(times(160, "0"), 0);
        fault(times(160, ";"), 0);
        fault(times(155, " ") + "abcde", 155);
    }

    private static void tenLines() {
        promise = "21: LINES with ; between, 10 at most";
        for (int lines = 1; lines <= 12; lines++) {
            String text = "hit 1 1" + times(lines - 1, ";hit 1 1");
            fault(text, lines <= 10 ? NONE : 79);
            RoomsCaught x = new RoomsCaught();
            type(x, text);
            due("thing of " + lines, x.thing(), lines <= 10 ? lines : NOT);
            due("count(5)", x.count(5), lines <= 10 ? lines : 0);
        }
        String ten = "hit 1 1" + times(9, ";hit 1 1");
        fault(ten + " ", NONE);
        fault(ten + ";", 79);
        fault(ten + " ;", 80);
        fault(ten + ";;", 79);
        fault(ten + ";hit 9 9", 79);
        fault(ten + " hit", 80);
        fault("hit 1 1" + times(8, ";hit 1 1") + ";", 72);
        fault("mark 1 1 1" + times(9, ";mark 1 1 1"), NONE);
        fault("empty 1 1  ;    " + times(8, "mark 1 1 1 ;    ") + "      hit 1   1 ", NONE);
    }

    private static void firstFaultOfTwo() {
        promise = "21: A FAULT is at the first TOKEN";
        fault("hit 8 8", 4);
        fault("hit 1 8;hit 8 1", 6);
        fault("hit 1 1;foo;bar", 8);
        fault("hit 1 1;;;", 8);
        fault("mark 0 9 9", 5);
        fault("foo 9 9", 0);
    }

    private static void faultChangesNothing() {
        promise = "21: fault() only tells";
        RoomsCaught x = new RoomsCaught();
        type(x, "hit 1");
        due("fault", x.fault(), 5);
        due("fault again", x.fault(), 5);
        due("bytes", x.count(4), 5);
        typeOn(x, " 1", 5);
        due("fault", x.fault(), NONE);
        due("fault again", x.fault(), NONE);
        due("LINES of THE THING", x.count(5), 0);
        due("no THING", x.fit(-1), NOT);
        typeOn(x, ";", 7);
        due("fault", x.fault(), 8);
    }

    private static void thingAndText() {
        promise = "22: THE TEXT becomes THE THING, and is empty then";
        RoomsCaught x = new RoomsCaught();
        due("NOT: an empty one has a FAULT", x.thing(), NOT);
        type(x, "hit 0 0");
        due("one LINE", x.thing(), 1);
        due("empty", x.count(4), 0);
        due("its FAULT", x.fault(), 0);
        due("NOT again", x.thing(), NOT);
        due("nothing to erase", x.erase(), 0);
        due("written from the start", x.write(bytesOf("e"), 1), 1);
    }

    private static void thingIsKept() {
        promise = "22: NOT: it has a FAULT, and nothing changes";
        RoomsCaught x = new RoomsCaught();
        x.stand(make(x, 1, 0, 0), 0, 0);
        type(x, "hit 0 0;empty 1 0");
        due("thing", x.thing(), 2);
        due("FITS", x.fit(-1), 1);
        due("FIT", x.fit(0), 4 * 1 + 2);
        type(x, "empty 0 0;empty 1 0;empty 2");
        due("NOT", x.thing(), NOT);
        due("LINES", x.count(5), 2);
        due("FITS", x.fit(-1), 1);
        due("FIT", x.fit(0), 4 * 1 + 2);
        due("FAULT", x.fault(), 27);
        due("FITS", x.fit(-1), 1);
        due("erase", x.erase(), 27);
        due("LINES", x.count(5), 2);
        type(x, "hit 0 0");
        due("FAULT", x.fault(), NONE);
        due("FITS are the old one's", x.fit(0), 4 * 1 + 2);
        due("another", x.thing(), 1);
        due("LINES", x.count(5), 1);
        due("FITS", x.fit(-1), 4);
    }

    private static void noThing() {
        promise = "23: NOT: there is no THING. (OUTSIDE ahead.)";
        RoomsCaught x = new RoomsCaught();
        type(x, "hit 0 0");
        due("-1", x.fit(-1), NOT);
        due("0", x.fit(0), NOT);
        due("most", x.fit(MOST), NOT);
        due("-2", x.fit(-2), OUTSIDE);
        due("least", x.fit(LEAST), OUTSIDE);
        x.thing();
        due("-1", x.fit(-1), 0);
        due("-2", x.fit(-2), OUTSIDE);
    }

    private static void iOfFits() {
        promise = "23: How many FITS (i -1); NONE";
        RoomsCaught x = new RoomsCaught();
        type(x, "hit 0 0");
        x.thing();
        due("none", x.fit(-1), 0);
        due("0", x.fit(0), NONE);
        x.set(2, 1);
        due("all", x.fit(-1), 256);
        due("0", x.fit(0), 1000);
        due("255", x.fit(255), 1255);
        due("256", x.fit(256), NONE);
        due("most", x.fit(MOST), NONE);
        due("least", x.fit(LEAST), OUTSIDE);
    }

    private static void fitsInTheHall() {
        promise = "23: all spots of LINES are in THE HALL";
        RoomsCaught x = new RoomsCaught();
        x.set(2, 10);
        type(x, "hit 7 7");
        x.thing();
        due("one a TURN", x.fit(-1), 4);
        due("0", x.fit(0), 1000);
        due("1", x.fit(1), 1000 + 4 * 7 + 1);
        due("2", x.fit(2), 1000 + 4 * 63 + 2);
        due("3", x.fit(3), 1000 + 4 * 56 + 3);
        due("4", x.fit(4), NONE);
        type(x, "empty 7 0");
        x.thing();
        due("a row or a column", x.fit(-1), 32);
        due("the first", x.fit(0), 1000);
        due("the last", x.fit(31), 1000 + 4 * 63 + 3);
        type(x, "mark 1 0 7;empty 7 0");
        x.thing();
        due("0, 0 itself need not be told", x.fit(-1), 4);
        due("the first", x.fit(0), 2000);
    }

    private static void fitsByTurnAndCell() {
        promise = "23: then TURN, then CELL";
        RoomsCaught x = new RoomsCaught();
        type(x, "empty 0 0");
        x.thing();
        x.set(2, 1);
        for (int i = 0; i < 256; i++) {
            due("fit(" + i, x.fit(i), 1000 + 4 * (i % 64) + i / 64);
        }
    }

    /** CELL 0 is EMPTY, 1 a GHOST with MARK 1, 2 EMPTY, 3 HIT with MARK 9; else UNSEEN. */
    private static RoomsCaught fourKinds() {
        RoomsCaught x = new RoomsCaught();
        x.stand(make(x, 1, 0, 1, 3, 0, 9), 0, 0);
        due("kinds", 1000 * x.cell(0) + 100 * x.cell(1) + 10 * x.cell(2) + x.cell(3), 1312);
        return x;
    }

    private static void hitEmptyMark() {
        promise = "23: for hit HIT, for empty EMPTY, for mark a HIT with that MARK; UNSEEN costs 1 instead";
        String[] lines = {"hit 0 0", "empty 0 0", "mark 1 0 0", "mark 9 0 0", "mark 5 0 0"};
        int[] count = {1, 2, 1, 1, 0};
        int[] first = {3, 0, 1, 3, 4};
        for (int k = 0; k < lines.length; k++) {
            RoomsCaught x = fourKinds();
            type(x, lines[k]);
            x.thing();
            due(lines[k], x.fit(-1), 4 * count[k]);
            due(lines[k], x.fit(0), count[k] == 0 ? NONE : 4 * first[k]);
            x.set(2, 1);
            due(lines[k] + ", price 1", x.fit(-1), 4 * (count[k] + 60));
            due(lines[k] + ", the first UNSEEN", x.fit(4 * count[k]), 1000 + 16);
            due(lines[k] + ", the last", x.fit(4 * (count[k] + 60) - 1), 1000 + 255);
        }
    }

    private static void marksThatStand() {
        promise = "23: for mark a HIT there of a SWEEP that STANDS";
        RoomsCaught x = new RoomsCaught();
        int one = make(x, 1, 0, 1);
        int two = make(x, 1, 0, 9);
        int bare = make(x, 1, 0, 0);
        type(x, "mark 9 0 0");
        x.thing();
        due("apart", x.fit(-1), 0);
        x.stand(one, 0, 0);
        x.stand(bare, 0, 0);
        due("another MARK, and none", x.fit(-1), 0);
        x.stand(two, 0, 0);
        due("one of three HITS", x.fit(-1), 4);
        due("there", x.fit(0), 4);
        x.part(two);
        due("apart again", x.fit(-1), 0);
        for (int i = 3; i < 8; i++) {
            x.stand(make(x, 1, 0, i), 0, 0);
        }
        due("of eight SWEEPS none", x.fit(-1), 0);
        type(x, "mark 7 0 0");
        x.thing();
        due("the last of eight", x.fit(-1), 4);
    }

    private static void priceAtMost() {
        promise = "23: PRICE at most together";
        RoomsCaught x = fourKinds();
        type(x, "hit 0 0;hit 0 0;empty 0 1");
        x.thing();
        // Without cost: 0 0 in 3, 0 1 in 2. For 1: 0 1 in 11 or 4. For 2: 0 0 below the EMPTY 0 or 2.
        int[] told = {4 * 3 + 1, 1000 + 4 * 3, 1000 + 4 * 3 + 3, 2000 + 4 * 8 + 2, 2000 + 4 * 10 + 2, 3000 + 4 * 4};
        int[] most = {1, 3, 5};
        for (int price = 0; price <= 2; price++) {
            x.set(2, price);
            due("price " + price, x.fit(-1), most[price]);
            for (int i = 0; i <= 5; i++) {
                due("fit(" + i, x.fit(i), i < most[price] ? told[i] : NONE);
            }
        }
        x.set(2, 3);
        due("the first for 3", x.fit(5), told[5]);
    }

    private static void priceTen() {
        promise = "23: PRICE (0 .. 10)";
        RoomsCaught x = new RoomsCaught();
        type(x, "hit 0 0" + times(9, ";hit 0 0"));
        due("ten LINES, all alike", x.thing(), 10);
        for (int price = 0; price <= 9; price++) {
            x.set(2, price);
            due("price " + price, x.fit(-1), 0);
        }
        x.set(2, 10);
        due("price 10", x.fit(-1), 256);
        due("the first", x.fit(0), 10000);
        due("the last", x.fit(255), 10255);
        due("beyond", x.fit(256), NONE);
    }

    /** However many LINES are UNSEEN, and wherever it stands among them, a LINE that is seen otherwise is no FIT. */
    private static void oneLineUnmet() {
        promise = "23: costs 1 instead only where the CELL is UNSEEN";
        String[] unmet = {"hit 0 0", "empty 3 0", "hit 1 0", "empty 1 0", "mark 9 1 0", "mark 1 3 0", "mark 1 0 0"};
        for (String line : unmet) {
            for (int unseen = 0; unseen <= 9; unseen++) {
                for (int ahead = 0; ahead <= unseen; ahead += Math.max(1, unseen)) {
                    RoomsCaught x = fourKinds();
                    x.set(2, 10);
                    type(x, times(ahead, "hit 4 0;") + line + times(unseen - ahead, ";hit 4 0"));
                    due("thing", x.thing(), unseen + 1);
                    due(line + " with " + unseen + " UNSEEN", costAt(x, 0), NONE);
                    due("all UNSEEN, one CELL below", costAt(x, 4 * 8), unseen + 1);
                }
            }
        }
    }

    /** The cost of the FIT with that 4 CELL + TURN; NONE: it is no FIT. */
    private static int costAt(RoomsCaught x, int place) {
        int all = x.fit(-1);
        for (int i = 0; i < all; i++) {
            int fit = x.fit(i);
            if (fit % 1000 == place) {
                return fit / 1000;
            }
        }
        return NONE;
    }

    private static void fitsByCost() {
        promise = "23: FITS come by cost";
        RoomsCaught x = new RoomsCaught();
        x.stand(make(x, -1, 0, 0), 63, 0);
        // 63 EMPTY, 62 HIT: the only FIT without cost is the last CELL of all, turned by 2.
        type(x, "empty 0 0;hit 1 0");
        x.thing();
        x.set(2, 2);
        due("no cost", x.fit(0), 4 * 63 + 2);
        due("cost 1 next: 62 from 61", x.fit(1), 1000 + 4 * 61);
        due("62 from above, by TURN 1", x.fit(2), 1000 + 4 * 54 + 1);
        due("63 by TURN 3", x.fit(3), 1000 + 4 * 63 + 3);
        due("cost 2 then", x.fit(4), 2000);
        due("the last", x.fit(x.fit(-1) - 1), 2000 + 4 * 61 + 3);
    }
}
