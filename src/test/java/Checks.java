/** What the tests have in common: answers compared with those due, and short ways to make halls and texts. */
abstract class Checks {
    static final int NONE = RoomsCaught.NONE, UNKNOWN = RoomsCaught.UNKNOWN, OUTSIDE = RoomsCaught.OUTSIDE;
    static final int NOT = RoomsCaught.NOT, FULL = RoomsCaught.FULL;
    static final int LEAST = Integer.MIN_VALUE, MOST = Integer.MAX_VALUE;

    static int wrong = 0;
    static String promise = "";

    static void due(String call, long got, long want) {
        if (got != want) {
            wrong++;
            System.out.println(promise + ": " + call + " answered " + got + ", due is " + want);
        }
    }

    static void end(String allIsWell) {
        System.out.println(wrong == 0 ? allIsWell : wrong + " answers are not as due");
        if (wrong != 0) {
            System.exit(1);
        }
    }

    /** A sweep with hits told as x, y, mark, x, y, mark, ..; its number. */
    static int make(RoomsCaught x, int... hits) {
        int number = x.sweep();
        for (int i = 0; i + 2 < hits.length; i += 3) {
            due("hit " + i / 3, x.hit(number, hits[i], hits[i + 1], hits[i + 2]), i / 3 + 1);
        }
        return number;
    }

    /** THE TEXT is just this then. */
    static void type(RoomsCaught x, String text) {
        x.erase();
        typeOn(x, text, 0);
    }

    /** More of THE TEXT, which had so many bytes. */
    static void typeOn(RoomsCaught x, String text, int had) {
        for (int from = 0; from < text.length(); from += 8) {
            int n = Math.min(8, text.length() - from);
            due("write", x.write(bytesOf(text.substring(from, from + n)), n), had + from + n);
        }
    }

    static long bytesOf(String text) {
        long bytes = 0;
        for (int i = 0; i < text.length() && i < 8; i++) {
            bytes |= (long) (text.charAt(i) & 255) << 8 * i;
        }
        return bytes;
    }

    static long bits(int... cells) {
        long all = 0;
        for (int cell : cells) {
            all |= 1L << cell;
        }
        return all;
    }

    static boolean inHall(int x, int y) {
        return x >= 0 && x <= 7 && y >= 0 && y <= 7;
    }
}
