import java.util.ArrayList;
import java.util.Arrays;
import java.util.List;
import java.util.Random;
import java.util.TreeMap;

/** Long runs of calls on the class and on a plain second model that goes by the document word for word. */
public final class ModelTest {
    // Writing a text takes the most calls at once, and these must fit in too.
    private static final int RUNS = 2400, CALLS = 512, CALLS_AT_ONCE = 150, SHOWN = 20;
    private static int wrong = 0;

    public static void main(String[] args) {
        TreeMap<String, Integer> met = new TreeMap<>();
        for (int run = 0; run < RUNS && wrong < SHOWN; run++) {
            new Run(run, met).go();
        }
        // A run that never meets a kind of answer would test nothing by it.
        for (String kind : new String[] {"way>=0", "fits>=1", "bars>=1", "wall>=1", "corners>=1", "doors>=1", "rooms>=1",
                "away>=1", "thing>=1", "fit>=1", "moved>=2", "spread>=1", "span>=1", "kept>=1", "away=-1", "next>=1",
                "fits1>=2", "bars>=2", "hit=-5", "sweep=-5", "write=-5", "join=-5", "loop=-5", "length=-5"}) {
            if (met.getOrDefault(kind, 0) < 10) {
                wrong++;
                System.out.println("met too seldom: " + kind + " " + met.getOrDefault(kind, 0));
            }
        }
        System.out.println(wrong == 0 ? "class and model agree" : wrong + " answers differ");
        if (wrong != 0) {
            System.exit(1);
        }
    }

    /** One run: calls drawn by a fixed seed. */
    private static final class Run {
        final int number;
        final Random random;
        final TreeMap<String, Integer> met;
        final RoomsCaught real = new RoomsCaught();
        final Model model = new Model();
        final StringBuilder trail = new StringBuilder();
        final int style;
        String waiting = "";
        int calls = 0;

        Run(int number, TreeMap<String, Integer> met) {
            this.number = number;
            this.random = new Random(number * 7919L + 17);
            this.met = met;
            this.style = number % 6;
        }

        int any(int least, int most) {
            // Runs of the last style have a wrong number in every second call or so.
            int odd = random.nextInt(style == 5 ? 8 : 150);
            if (odd == 0) {
                return random.nextBoolean() ? least - 1 : most + 1;
            }
            if (odd == 1) {
                return random.nextBoolean() ? Integer.MIN_VALUE : Integer.MAX_VALUE;
            }
            return least + random.nextInt(most - least + 1);
        }

        long anyCells() {
            switch (random.nextInt(4)) {
                case 0: return -1L;
                case 1: return random.nextLong();
                case 2: return 1L << random.nextInt(64);
                default: return random.nextLong() & random.nextLong() & random.nextLong();
            }
        }

        void due(String name, String call, long got, long want) {
            calls++;
            trail.append(call).append(" = ").append(got).append('\n');
            count(name + "=" + want);
            for (int least = 0; least <= 2; least++) {
                if (want >= least) {
                    count(name + ">=" + least);
                }
            }
            if (got != want) {
                wrong++;
                System.out.println("run " + number + ": " + call + " answered " + got + ", the model " + want);
                if (wrong == 1) {
                    System.out.println(trail);
                }
            }
        }

        void count(String kind) {
            if (kind.length() < 12) {
                met.merge(kind, 1, Integer::sum);
            }
        }

        void go() {
            if (style == 4) {
                buildWalls();
            } else if (style == 3) {
                buildMoves();
            }
            // What an object answers beyond its 512th call is free.
            while (calls <= CALLS - CALLS_AT_ONCE && wrong < SHOWN) {
                int draw = style == 0 && random.nextBoolean() ? 99 : random.nextInt(100);
                if (draw < 40) {
                    sweeps();
                } else if (draw < 62) {
                    there();
                } else if (draw < 75) {
                    things();
                } else if (draw < 85) {
                    years();
                } else {
                    joinsAndLengths();
                }
            }
            if (calls > CALLS) {
                wrong++;
                System.out.println("run " + number + ": " + calls + " calls are more than an object is promised for");
            }
        }

        /** Two sweeps around one place, with beams of other lengths, kept one after the other; so at two places. */
        void buildMoves() {
            int[] places = {random.nextInt(2) + 8 * 3 + 2, random.nextInt(2) + 8 * 4 + 4};
            int pairs = 1 + random.nextInt(2);
            for (int kept = 0; kept < 2; kept++) {
                for (int k = 0; k < pairs; k++) {
                    int sweep = model.sweepCount();
                    due("sweep", "sweep()", real.sweep(), model.sweep());
                    for (int d = 0; d < 9; d++) {
                        int far = 1 + random.nextInt(3);
                        hit(sweep, far * (d % 3 - 1), far * (d / 3 - 1), 0);
                    }
                    stand(sweep, places[k], 0);
                }
                due("keep", "keep(" + kept + ")", real.keep(kept), model.keep(kept));
                for (int k = 0; k < pairs; k++) {
                    int sweep = model.sweepCount() - 1 - k;
                    due("part", "part(" + sweep + ")", real.part(sweep), model.part(sweep));
                }
            }
            for (int k = 0; k < 4; k++) {
                due("moved", "moved(" + k / 2 + ", " + (1 - k / 2) + ", " + k % 2 + ")", real.moved(k / 2, 1 - k / 2, k % 2),
                        model.moved(k / 2, 1 - k / 2, k % 2));
            }
        }

        /** A hall of small rooms with ways between them, so that doors and rooms come about. */
        void buildWalls() {
            boolean[] open = new boolean[64];
            for (int k = 0; k < 3 + random.nextInt(4); k++) {
                int x = 1 + random.nextInt(5);
                int y = 1 + random.nextInt(5);
                boolean isWide = random.nextBoolean();
                for (int i = 0; i < 2 + random.nextInt(4); i++) {
                    int cell = isWide ? 8 * y + Math.min(6, x + i) : 8 * Math.min(6, y + i) + x;
                    open[cell] = true;
                }
            }
            for (int cell = 0; cell < 64; cell++) {
                if (open[cell]) {
                    lookRound(cell, open);
                }
            }
        }

        void lookRound(int cell, boolean[] open) {
            int sweep = model.sweepCount();
            if (sweep >= 8 || random.nextInt(3) == 0) {
                return;
            }
            due("sweep", "sweep()", real.sweep(), model.sweep());
            int[] ahead = {1, 0, -1, 0, 0, 1, 0, -1, 1, 1, 1, -1, -1, 1, -1, -1};
            for (int i = 0; i < 16; i += 2) {
                int x = cell % 8;
                int y = cell / 8;
                int far = 0;
                do {
                    far++;
                } while (open[8 * (y + far * ahead[i + 1]) + x + far * ahead[i]]);
                hit(sweep, far * ahead[i], far * ahead[i + 1], 0);
            }
            stand(sweep, cell, 0);
        }

        void hit(int sweep, int x, int y, int mark) {
            due("hit", "hit(" + sweep + ", " + x + ", " + y + ", " + mark + ")", real.hit(sweep, x, y, mark),
                    model.hit(sweep, x, y, mark));
        }

        void stand(int sweep, int cell, int turn) {
            due("stand", "stand(" + sweep + ", " + cell + ", " + turn + ")", real.stand(sweep, cell, turn),
                    model.stand(sweep, cell, turn));
        }

        void sweeps() {
            int sweep = any(0, Math.max(0, model.sweepCount() - 1));
            int reach = style == 1 ? 7 : 3;
            int cell = any(0, 63);
            int turn = any(0, 3);
            int i = random.nextInt(3) == 0 ? any(0, 8) : random.nextInt(20) == 0 ? any(-2, 255) : -1;
            switch (random.nextInt(12)) {
                case 0:
                    due("sweep", "sweep()", real.sweep(), model.sweep());
                    break;
                case 1: case 2: case 3: case 4: case 5:
                    hit(sweep, any(-reach, reach), any(-reach, reach), random.nextBoolean() ? 0 : any(0, style == 2 ? 2 : 9));
                    break;
                case 6: case 7:
                    stand(sweep, cell, turn);
                    break;
                case 8:
                    if (random.nextInt(4) == 0) {
                        due("part", "part(" + sweep + ")", real.part(sweep), model.part(sweep));
                    } else {
                        int what = any(0, 2);
                        int v = any(0, random.nextInt(3) == 0 ? 16 : 3);
                        due("set", "set(" + what + ", " + v + ")", real.set(what, v), model.set(what, v));
                    }
                    break;
                case 9:
                    due("way", "way(" + sweep + ", " + i + ")", real.way(sweep, i), model.way(sweep, i));
                    break;
                case 10:
                    int what = any(0, 1);
                    due("fits" + (what == 1 ? "1" : ""), "fits(" + sweep + ", " + cell + ", " + turn + ", " + what + ")",
                            real.fits(sweep, cell, turn, what), model.fits(sweep, cell, turn, what));
                    due("fits", "fits again", real.fits(sweep, cell, turn, 1), model.fits(sweep, cell, turn, 1));
                    break;
                default:
                    due("bars", "bars(" + sweep + ", " + cell + ", " + turn + ")", real.bars(sweep, cell, turn),
                            model.bars(sweep, cell, turn));
            }
        }

        void there() {
            int cell = any(0, 63);
            int i = any(-1, 6);
            int two = any(0, 3);
            switch (random.nextInt(10)) {
                case 0: due("cell", "cell(" + cell + ")", real.cell(cell), model.cell(cell)); break;
                case 1: due("cells", "cells(" + i + ")", real.cells(i), model.cells(i)); break;
                case 2: due("lead", "lead(" + cell + ", " + i + ")", real.lead(cell, i), model.lead(cell, i)); break;
                case 3: due("wall", "wall(" + i + ")", real.wall(i), model.wall(i)); break;
                case 4: due("corners", "corners()", real.corners(), model.corners()); break;
                case 5: due("doors", "doors()", real.doors(), model.doors()); break;
                case 6: due("room", "room(" + cell + ")", real.room(cell), model.room(cell)); break;
                case 7: due("rooms", "rooms(" + i + ")", real.rooms(i), model.rooms(i)); break;
                case 8: due("away", "away(" + i + ", " + two + ")", real.away(i, two), model.away(i, two)); break;
                default:
                    int what = any(0, 8);
                    due("count", "count(" + what + ")", real.count(what), model.count(what));
            }
        }

        String anyLine() {
            String[] odd = {"hits 1 1", "hit 8 1", "hit 1 9", "mark 0 1 1", "hit 11 1", "hit 1", ";", "x", "hit 1 1 1", "",
                "mark 1 1", "hit,1 1", "Hit 1 1", "empty  1  1 ", "mark 11 0 0"};
            if (random.nextInt(12) == 0) {
                return odd[random.nextInt(odd.length)];
            }
            int x = random.nextInt(3);
            int y = random.nextInt(3);
            switch (random.nextInt(3)) {
                case 0: return "hit " + x + " " + y;
                case 1: return "empty " + x + " " + y;
                default: return "mark " + (1 + random.nextInt(style == 2 ? 2 : 9)) + " " + x + " " + y;
            }
        }

        String anyText() {
            StringBuilder text = new StringBuilder();
            int lines = random.nextInt(30) == 0 ? 9 + random.nextInt(3) : 1 + random.nextInt(3);
            for (int line = 0; line < lines; line++) {
                text.append(line == 0 ? "" : random.nextInt(5) == 0 ? " ; " : ";").append(anyLine());
            }
            return text.toString();
        }

        void things() {
            switch (random.nextInt(8)) {
                case 0:
                    due("fault", "fault()", real.fault(), model.fault());
                    break;
                case 1:
                    due("thing", "thing()", real.thing(), model.thing());
                    break;
                case 2:
                    if (random.nextInt(3) == 0) {
                        due("erase", "erase()", real.erase(), model.erase());
                    }
                    waiting = "";
                    break;
                case 3: case 4: case 5:
                    writeOn();
                    break;
                default:
                    int i = random.nextBoolean() ? -1 : any(-1, 12);
                    due("fit", "fit(" + i + ")", real.fit(i), model.fit(i));
            }
        }

        void writeOn() {
            if (waiting.isEmpty()) {
                due("erase", "erase()", real.erase(), model.erase());
                waiting = anyText();
            }
            boolean isWhole = random.nextInt(4) != 0;
            do {
                int n = waiting.isEmpty() || random.nextInt(100) == 0 ? any(1, 8) : Math.min(waiting.length(), 1 + random.nextInt(8));
                long bytes = random.nextLong();
                for (int i = 0; i < n && i < 8 && i < waiting.length(); i++) {
                    bytes = bytes & ~(255L << 8 * i) | (long) waiting.charAt(i) << 8 * i;
                }
                due("write", "write(" + bytes + ", " + n + ")", real.write(bytes, n), model.write(bytes, n));
                waiting = waiting.substring(Math.max(0, Math.min(n, waiting.length())));
            } while (isWhole && !waiting.isEmpty());
            if (random.nextInt(40) == 0) {
                for (int k = 0; k < 20; k++) {
                    long bytes = random.nextLong();
                    due("write", "write(" + bytes + ", 8)", real.write(bytes, 8), model.write(bytes, 8));
                }
            } else if (isWhole && random.nextInt(4) != 0) {
                due("fault", "fault()", real.fault(), model.fault());
                due("thing", "thing()", real.thing(), model.thing());
            }
        }

        void years() {
            int one = any(0, 2);
            int two = any(0, 2);
            int from = any(0, 63);
            int to = any(0, 63);
            switch (random.nextInt(6)) {
                case 0: due("keep", "keep(" + one + ")", real.keep(one), model.keep(one)); break;
                case 1:
                    int what = any(0, 2);
                    due("since", "since(" + one + ", " + two + ", " + what + ")", real.since(one, two, what),
                            model.since(one, two, what));
                    break;
                case 2: case 3:
                    int part = any(0, 1);
                    due("moved", "moved(" + one + ", " + two + ", " + part + ")", real.moved(one, two, part),
                            model.moved(one, two, part));
                    break;
                case 4: due("see", "see(" + from + ", " + to + ")", real.see(from, to), model.see(from, to)); break;
                default:
                    long asked = anyCells();
                    long places = anyCells();
                    due("next", "next(" + asked + ", " + places + ")", real.next(asked, places), model.next(asked, places));
            }
        }

        void joinsAndLengths() {
            int a = any(0, style == 3 ? 7 : 2);
            int b = any(0, style == 3 ? 7 : 2);
            int join = any(0, Math.max(0, model.count(6) - 1));
            switch (random.nextInt(14)) {
                case 0: case 1:
                    int v = any(-99, 99);
                    v = random.nextInt(3) == 0 ? v : v / 50;
                    int weight = random.nextBoolean() ? any(1, 50) : any(1, 3);
                    due("join", "join(" + a + ", " + b + ", " + v + ", " + weight + ")", real.join(a, b, v, weight),
                            model.join(a, b, v, weight));
                    break;
                case 2:
                    int set = random.nextInt(1 << Math.min(12, model.count(6))) & random.nextInt(1 << 12);
                    set = random.nextInt(20) == 0 ? random.nextInt() : set;
                    due("agrees", "agrees(" + set + ")", real.agrees(set), model.agrees(set));
                    break;
                case 3: due("kept", "kept()", real.kept(), model.kept()); break;
                case 4: case 5: case 6: case 7:
                    boolean isBack = random.nextBoolean();
                    due("loop", "loop(" + join + ", " + isBack + ")", real.loop(join, isBack), model.loop(join, isBack));
                    break;
                case 8:
                    if (random.nextInt(6) == 0) {
                        due("unloop", "unloop()", real.unloop(), model.unloop());
                    }
                    break;
                case 9:
                    int i = any(-1, Math.max(0, model.count(7) - 1));
                    int part = any(0, 1);
                    due("spread", "spread(" + i + ", " + part + ")", real.spread(i, part), model.spread(i, part));
                    break;
                case 10: case 11:
                    int lo = any(0, random.nextBoolean() ? 999 : 20);
                    int hi = Math.min(1000, lo) + random.nextInt(20);
                    int truly = random.nextBoolean() ? any(-1, 999) : any(-1, 30);
                    due("length", "length(" + lo + ", " + hi + ", " + truly + ")", real.length(lo, hi, truly),
                            model.length(lo, hi, truly));
                    break;
                case 12:
                    int what = any(0, 1);
                    due("held", "held(" + what + ")", real.held(what), model.held(what));
                    break;
                default:
                    int hundredths = any(0, 100);
                    due("span", "span(" + hundredths + ")", real.span(hundredths), model.span(hundredths));
            }
        }
    }

    /** The document told again with lists and loops over everything, and nothing kept that can be found anew. */
    private static final class Model {
        static final int NONE = -1, UNKNOWN = -2, OUTSIDE = -3, NOT = -4, FULL = -5;
        final List<List<int[]>> sweeps = new ArrayList<>();
        final List<int[]> stood = new ArrayList<>();
        final int[] limits = {3, 0, 0};
        final List<Integer> text = new ArrayList<>();
        List<int[]> thing = null;
        final int[][] kept = new int[3][64];
        final List<int[]> joins = new ArrayList<>();
        final List<int[]> row = new ArrayList<>();
        final List<int[]> lengths = new ArrayList<>();

        int sweepCount() {
            return sweeps.size();
        }

        int sweep() {
            if (sweeps.size() == 8) {
                return FULL;
            }
            sweeps.add(new ArrayList<>());
            stood.add(null);
            return sweeps.size() - 1;
        }

        boolean noSweep(int sweep) {
            return sweep < 0 || sweep >= sweeps.size();
        }

        static boolean noCell(int cell) {
            return cell < 0 || cell > 63;
        }

        int hit(int sweep, int x, int y, int mark) {
            if (noSweep(sweep)) {
                return UNKNOWN;
            }
            if (x < -7 || x > 7 || y < -7 || y > 7 || x == 0 && y == 0 || mark < 0 || mark > 9) {
                return OUTSIDE;
            }
            for (int[] hit : sweeps.get(sweep)) {
                if (hit[0] == x && hit[1] == y) {
                    return NOT;
                }
            }
            if (stood.get(sweep) != null) {
                return NOT;
            }
            if (sweeps.get(sweep).size() == 16) {
                return FULL;
            }
            sweeps.get(sweep).add(new int[] {x, y, mark});
            return sweeps.get(sweep).size();
        }

        static int[] turned(int x, int y, int turn) {
            int[] at = {x, y};
            for (int k = 0; k < turn; k++) {
                at = new int[] {-at[1], at[0]};
            }
            return at;
        }

        /** Marks of hits by cell, -1 where there is none; null if a hit is out of the hall. */
        int[] hitsAt(int sweep, int cell, int turn) {
            int[] marks = new int[64];
            Arrays.fill(marks, -1);
            for (int[] hit : sweeps.get(sweep)) {
                int[] at = turned(hit[0], hit[1], turn);
                int x = cell % 8 + at[0];
                int y = cell / 8 + at[1];
                if (x < 0 || x > 7 || y < 0 || y > 7) {
                    return null;
                }
                marks[8 * y + x] = hit[2];
            }
            return marks;
        }

        /** Whether a spot lies on the line from the first to the second, the ends not with it. */
        static boolean between(int ax, int ay, int bx, int by, int x, int y) {
            boolean onLine = (bx - ax) * (y - ay) == (by - ay) * (x - ax);
            boolean inBox = x >= Math.min(ax, bx) && x <= Math.max(ax, bx) && y >= Math.min(ay, by) && y <= Math.max(ay, by);
            return onLine && inBox && !(x == ax && y == ay) && !(x == bx && y == by);
        }

        boolean[] beamsAt(int sweep, int cell, int turn) {
            boolean[] beams = new boolean[64];
            for (int[] hit : sweeps.get(sweep)) {
                int[] at = turned(hit[0], hit[1], turn);
                beams[cell] = true;
                for (int c = 0; c < 64; c++) {
                    if (between(cell % 8, cell / 8, cell % 8 + at[0], cell / 8 + at[1], c % 8, c / 8)) {
                        beams[c] = true;
                    }
                }
            }
            return beams;
        }

        int stand(int sweep, int cell, int turn) {
            if (noSweep(sweep) || noCell(cell)) {
                return UNKNOWN;
            }
            if (turn < 0 || turn > 3) {
                return OUTSIDE;
            }
            if (stood.get(sweep) != null || hitsAt(sweep, cell, turn) == null) {
                return NOT;
            }
            stood.set(sweep, new int[] {cell, turn});
            return count(1);
        }

        int part(int sweep) {
            if (noSweep(sweep)) {
                return UNKNOWN;
            }
            int[] where = stood.get(sweep);
            if (where == null) {
                return NOT;
            }
            stood.set(sweep, null);
            return 4 * where[0] + where[1];
        }

        int set(int what, int v) {
            int[] most = {16, 16, 10};
            if (what < 0 || what > 2 || v < 0 || v > most[what]) {
                return OUTSIDE;
            }
            int was = limits[what];
            limits[what] = v;
            return was;
        }

        int catchesOf(int sweep, int cell, int turn) {
            int[] hits = hitsAt(sweep, cell, turn);
            int caught = 0;
            for (int c = 0; c < 64; c++) {
                if (hits[c] >= 0 && lead(c, 0) != 0) {
                    caught++;
                }
            }
            return caught;
        }

        int quarrelsOf(int sweep, int cell, int turn, int other) {
            int[] where = stood.get(other);
            int[] mine = hitsAt(sweep, cell, turn);
            int[] its = hitsAt(other, where[0], where[1]);
            boolean[] myBeams = beamsAt(sweep, cell, turn);
            boolean[] itsBeams = beamsAt(other, where[0], where[1]);
            int quarrels = 0;
            for (int c = 0; c < 64; c++) {
                quarrels += mine[c] >= 0 && itsBeams[c] ? 1 : 0;
                quarrels += its[c] >= 0 && myBeams[c] ? 1 : 0;
                quarrels += mine[c] > 0 && its[c] > 0 && mine[c] != its[c] ? 1 : 0;
            }
            return quarrels;
        }

        int allQuarrels(int sweep, int cell, int turn) {
            int quarrels = 0;
            for (int other = 0; other < sweeps.size(); other++) {
                quarrels += stood.get(other) == null ? 0 : quarrelsOf(sweep, cell, turn, other);
            }
            return quarrels;
        }

        int way(int sweep, int i) {
            if (noSweep(sweep)) {
                return UNKNOWN;
            }
            if (i < -1) {
                return OUTSIDE;
            }
            if (stood.get(sweep) != null) {
                return NOT;
            }
            List<Integer> ways = new ArrayList<>();
            for (int turn = 0; turn < 4; turn++) {
                for (int cell = 0; cell < 64; cell++) {
                    if (hitsAt(sweep, cell, turn) != null && catchesOf(sweep, cell, turn) >= limits[0]
                            && allQuarrels(sweep, cell, turn) <= limits[1]) {
                        ways.add(4 * cell + turn);
                    }
                }
            }
            return pick(ways, i);
        }

        static int pick(List<Integer> list, int i) {
            return i == -1 ? list.size() : i < list.size() ? list.get(i) : NONE;
        }

        int fits(int sweep, int cell, int turn, int what) {
            if (noSweep(sweep) || noCell(cell)) {
                return UNKNOWN;
            }
            if (turn < 0 || turn > 3 || what < 0 || what > 1) {
                return OUTSIDE;
            }
            if (stood.get(sweep) != null) {
                return NOT;
            }
            if (hitsAt(sweep, cell, turn) == null) {
                return NONE;
            }
            return what == 0 ? catchesOf(sweep, cell, turn) : allQuarrels(sweep, cell, turn);
        }

        int bars(int sweep, int cell, int turn) {
            int first = fits(sweep, cell, turn, 0);
            if (first < 0) {
                return first == NONE ? 0 : first;
            }
            int bars = 0;
            for (int other = 0; other < sweeps.size(); other++) {
                if (stood.get(other) != null && quarrelsOf(sweep, cell, turn, other) > limits[1]) {
                    bars |= 1 << other;
                }
            }
            return bars;
        }

        int cell(int cell) {
            if (noCell(cell)) {
                return UNKNOWN;
            }
            return (lead(cell, 0) != 0 ? 2 : 0) + (lead(cell, 1) != 0 ? 1 : 0);
        }

        int[] kinds() {
            int[] kinds = new int[64];
            for (int c = 0; c < 64; c++) {
                kinds[c] = cell(c);
            }
            return kinds;
        }

        long cells(int what) {
            long all = 0;
            for (int c = 0; c < 64; c++) {
                all |= cell(c) == what ? 1L << c : 0;
            }
            return all;
        }

        int lead(int cell, int what) {
            if (noCell(cell)) {
                return UNKNOWN;
            }
            if (what < 0 || what > 1) {
                return OUTSIDE;
            }
            int found = 0;
            for (int s = 0; s < sweeps.size(); s++) {
                int[] where = stood.get(s);
                if (where == null) {
                    continue;
                }
                for (int[] hit : sweeps.get(s)) {
                    int[] at = turned(hit[0], hit[1], where[1]);
                    int mx = where[0] % 8;
                    int my = where[0] / 8;
                    int x = cell % 8;
                    int y = cell / 8;
                    boolean isHit = x == mx + at[0] && y == my + at[1];
                    boolean isPassed = x == mx && y == my || between(mx, my, mx + at[0], my + at[1], x, y);
                    if (what == 0 ? isHit : isPassed) {
                        found |= 1 << s;
                    }
                }
            }
            return found;
        }

        static int kindAt(int[] kinds, int x, int y) {
            return x < 0 || x > 7 || y < 0 || y > 7 ? -1 : kinds[8 * y + x];
        }

        List<int[]> wallList() {
            int[] kinds = kinds();
            List<int[]> walls = new ArrayList<>();
            for (int y = 0; y < 8; y++) {
                for (int x = 0; x < 8; x++) {
                    int end = x;
                    while (kindAt(kinds, end, y) == 2) {
                        end++;
                    }
                    if (end - x >= 3 && kindAt(kinds, x - 1, y) != 2) {
                        walls.add(new int[] {0, 8 * y + x, end - x});
                    }
                }
            }
            for (int x = 0; x < 8; x++) {
                for (int y = 0; y < 8; y++) {
                    int end = y;
                    while (kindAt(kinds, x, end) == 2) {
                        end++;
                    }
                    if (end - y >= 3 && kindAt(kinds, x, y - 1) != 2) {
                        walls.add(new int[] {1000, 8 * y + x, end - y});
                    }
                }
            }
            return walls;
        }

        int wall(int i) {
            if (i < -1) {
                return OUTSIDE;
            }
            List<Integer> told = new ArrayList<>();
            for (int[] wall : wallList()) {
                told.add(wall[0] + 10 * wall[1] + wall[2]);
            }
            return pick(told, i);
        }

        long corners() {
            long rows = 0;
            long columns = 0;
            for (int[] wall : wallList()) {
                for (int k = 0; k < wall[2]; k++) {
                    if (wall[0] == 0) {
                        rows |= 1L << wall[1] + k;
                    } else {
                        columns |= 1L << wall[1] + 8 * k;
                    }
                }
            }
            return rows & columns;
        }

        long doors() {
            int[] kinds = kinds();
            long doors = 0;
            for (int c = 0; c < 64; c++) {
                int x = c % 8;
                int y = c / 8;
                boolean left = kindAt(kinds, x - 1, y) == 2;
                boolean right = kindAt(kinds, x + 1, y) == 2;
                boolean above = kindAt(kinds, x, y - 1) == 2;
                boolean below = kindAt(kinds, x, y + 1) == 2;
                if (kinds[c] == 1 && (left && right && !above && !below || above && below && !left && !right)) {
                    doors |= 1L << c;
                }
            }
            return doors;
        }

        static final int[] ASIDE = {0, -1, 0, 1, -1, 0, 1, 0};

        List<List<Integer>> roomList() {
            int[] kinds = kinds();
            long doors = doors();
            boolean[] done = new boolean[64];
            List<List<Integer>> rooms = new ArrayList<>();
            for (int c = 0; c < 64; c++) {
                if (kinds[c] != 1 || (doors >> c & 1) != 0 || done[c]) {
                    continue;
                }
                List<Integer> room = new ArrayList<>();
                boolean isClosed = true;
                room.add(c);
                done[c] = true;
                for (int k = 0; k < room.size(); k++) {
                    for (int d = 0; d < 8; d += 2) {
                        int x = room.get(k) % 8 + ASIDE[d];
                        int y = room.get(k) / 8 + ASIDE[d + 1];
                        int kind = kindAt(kinds, x, y);
                        if (kind == -1 || kind == 0 || kind == 3) {
                            isClosed = false;
                        } else if (kind == 1 && (doors >> 8 * y + x & 1) == 0 && !done[8 * y + x]) {
                            done[8 * y + x] = true;
                            room.add(8 * y + x);
                        }
                    }
                }
                if (isClosed) {
                    rooms.add(room);
                }
            }
            return rooms;
        }

        int room(int cell) {
            if (noCell(cell)) {
                return UNKNOWN;
            }
            List<List<Integer>> rooms = roomList();
            for (int r = 0; r < rooms.size(); r++) {
                if (rooms.get(r).contains(cell)) {
                    return r;
                }
            }
            return NONE;
        }

        long rooms(int room) {
            List<List<Integer>> rooms = roomList();
            long all = 0;
            if (room >= 0 && room < rooms.size()) {
                for (int c : rooms.get(room)) {
                    all |= 1L << c;
                }
            }
            return all;
        }

        int away(int one, int two) {
            int rooms = roomList().size();
            if (one < 0 || one >= rooms || two < 0 || two >= rooms) {
                return UNKNOWN;
            }
            int[][] away = new int[rooms][rooms];
            for (int a = 0; a < rooms; a++) {
                Arrays.fill(away[a], 1000);
                away[a][a] = 0;
            }
            long doors = doors();
            for (int c = 0; c < 64; c++) {
                if ((doors >> c & 1) == 0) {
                    continue;
                }
                for (int d = 0; d < 8; d += 2) {
                    for (int e = 0; e < 8; e += 2) {
                        int a = roomAt(c % 8 + ASIDE[d], c / 8 + ASIDE[d + 1]);
                        int b = roomAt(c % 8 + ASIDE[e], c / 8 + ASIDE[e + 1]);
                        if (a >= 0 && b >= 0 && a != b) {
                            away[a][b] = 1;
                        }
                    }
                }
            }
            for (int k = 0; k < rooms; k++) {
                for (int a = 0; a < rooms; a++) {
                    for (int b = 0; b < rooms; b++) {
                        away[a][b] = Math.min(away[a][b], away[a][k] + away[k][b]);
                    }
                }
            }
            return away[one][two] >= 1000 ? NONE : away[one][two];
        }

        int roomAt(int x, int y) {
            return x < 0 || x > 7 || y < 0 || y > 7 ? NONE : room(8 * y + x);
        }

        int write(long bytes, int n) {
            if (n < 1 || n > 8) {
                return OUTSIDE;
            }
            if (text.size() + n > 160) {
                return FULL;
            }
            for (int i = 0; i < n; i++) {
                text.add((int) (bytes >> 8 * i & 255));
            }
            return text.size();
        }

        int erase() {
            int had = text.size();
            text.clear();
            return had;
        }

        /** Tokens as {begin, text}; the last is the end, with an empty text. */
        List<Object[]> tokens() {
            List<Object[]> tokens = new ArrayList<>();
            StringBuilder all = new StringBuilder();
            for (int b : text) {
                all.append((char) b);
            }
            java.util.regex.Matcher m = java.util.regex.Pattern.compile("[a-z]+|[0-9]+|[^ ]",
                    java.util.regex.Pattern.DOTALL).matcher(all);
            while (m.find()) {
                tokens.add(new Object[] {m.start(), m.group()});
            }
            tokens.add(new Object[] {text.size(), ""});
            return tokens;
        }

        /** The patterns by which tokens may go on after those read. */
        int fault() {
            String[] shape = {};
            int at = 0;
            int lines = 0;
            for (Object[] token : tokens()) {
                String word = (String) token[1];
                if (at == 0) {
                    if (word.equals("hit") || word.equals("empty")) {
                        shape = new String[] {"", "[0-7]", "[0-7]"};
                    } else if (word.equals("mark")) {
                        shape = new String[] {"", "[1-9]", "[0-7]", "[0-7]"};
                    } else {
                        return (int) token[0];
                    }
                    lines++;
                    at = 1;
                } else if (at < shape.length) {
                    if (!word.matches(shape[at])) {
                        return (int) token[0];
                    }
                    at++;
                } else if (word.isEmpty()) {
                    return NONE;
                } else if (!word.equals(";") || lines == 10) {
                    return (int) token[0];
                } else {
                    at = 0;
                }
            }
            return NONE;
        }

        int thing() {
            if (fault() != NONE) {
                return NOT;
            }
            thing = new ArrayList<>();
            StringBuilder all = new StringBuilder();
            for (int b : text) {
                all.append((char) b);
            }
            for (String line : all.toString().split(";")) {
                String tight = line.replace(" ", "");
                int n = tight.length();
                int kind = tight.charAt(0) == 'h' ? 0 : tight.charAt(0) == 'e' ? 10 : tight.charAt(n - 3) - '0';
                thing.add(new int[] {kind, tight.charAt(n - 2) - '0', tight.charAt(n - 1) - '0'});
            }
            text.clear();
            return thing.size();
        }

        int fit(int i) {
            if (i < -1) {
                return OUTSIDE;
            }
            if (thing == null) {
                return NOT;
            }
            List<int[]> fits = new ArrayList<>();
            int[] kinds = kinds();
            for (int turn = 0; turn < 4; turn++) {
                for (int cell = 0; cell < 64; cell++) {
                    int cost = 0;
                    for (int[] line : thing) {
                        int[] at = turned(line[1], line[2], turn);
                        int x = cell % 8 + at[0];
                        int y = cell / 8 + at[1];
                        int kind = kindAt(kinds, x, y);
                        boolean isMet = kind != -1 && (line[0] == 0 ? kind == 2 : line[0] == 10 ? kind == 1
                                : hasMark(line[0], 8 * y + x));
                        cost += kind == 0 ? 1 : isMet ? 0 : 1000;
                    }
                    if (cost <= limits[2]) {
                        fits.add(new int[] {cost, turn, cell});
                    }
                }
            }
            fits.sort((a, b) -> a[0] != b[0] ? a[0] - b[0] : a[1] != b[1] ? a[1] - b[1] : a[2] - b[2]);
            List<Integer> told = new ArrayList<>();
            for (int[] fit : fits) {
                told.add(1000 * fit[0] + 4 * fit[2] + fit[1]);
            }
            return pick(told, i);
        }

        boolean hasMark(int mark, int cell) {
            for (int s = 0; s < sweeps.size(); s++) {
                int[] where = stood.get(s);
                if (where != null && hitsAt(s, where[0], where[1])[cell] == mark) {
                    return true;
                }
            }
            return false;
        }

        int keep(int k) {
            if (k < 0 || k > 2) {
                return UNKNOWN;
            }
            kept[k] = kinds();
            int seen = 0;
            for (int kind : kept[k]) {
                seen += kind == 0 ? 0 : 1;
            }
            return seen;
        }

        long since(int one, int two, int what) {
            if (one < 0 || one > 2 || two < 0 || two > 2) {
                return 0;
            }
            long all = 0;
            for (int c = 0; c < 64; c++) {
                int was = kept[one][c];
                int is = kept[two][c];
                if (what == 0 && was == 2 && is == 1 || what == 1 && was == 1 && is == 2
                        || what == 2 && was == 2 && is == 0) {
                    all |= 1L << c;
                }
            }
            return all;
        }

        List<Integer> firstSix(long cells) {
            List<Integer> six = new ArrayList<>();
            for (int c = 0; c < 64 && six.size() < 6; c++) {
                if ((cells >> c & 1) != 0) {
                    six.add(c);
                }
            }
            return six;
        }

        int moved(int one, int two, int what) {
            if (one < 0 || one > 2 || two < 0 || two > 2) {
                return UNKNOWN;
            }
            if (what < 0 || what > 1) {
                return OUTSIDE;
            }
            int[] best = {0, 0};
            pair(firstSix(since(one, two, 0)), 0, firstSix(since(one, two, 1)), 0, 0, best);
            return best[what];
        }

        /** Every way to pair, one left out also: most pairs first, then the least distance. */
        void pair(List<Integer> gone, int at, List<Integer> fresh, int pairs, int distance, int[] best) {
            if (pairs > best[0] || pairs == best[0] && distance < best[1]) {
                best[0] = pairs;
                best[1] = distance;
            }
            if (at == gone.size()) {
                return;
            }
            pair(gone, at + 1, fresh, pairs, distance, best);
            for (int j = 0; j < fresh.size(); j++) {
                List<Integer> rest = new ArrayList<>(fresh);
                int to = rest.remove(j);
                int from = gone.get(at);
                pair(gone, at + 1, rest, pairs + 1,
                        distance + Math.abs(from % 8 - to % 8) + Math.abs(from / 8 - to / 8), best);
            }
        }

        boolean sees(int[] kinds, int from, int to) {
            for (int c = 0; c < 64; c++) {
                if (kinds[c] >= 2 && between(from % 8, from / 8, to % 8, to / 8, c % 8, c / 8)) {
                    return false;
                }
            }
            return true;
        }

        int see(int from, int to) {
            if (noCell(from) || noCell(to)) {
                return UNKNOWN;
            }
            return cell(from) >= 2 ? NOT : sees(kinds(), from, to) ? 1 : 0;
        }

        int next(long asked, long places) {
            int[] kinds = kinds();
            int best = NONE;
            int most = -1;
            for (int from = 0; from < 64; from++) {
                if ((places >> from & 1) == 0 || kinds[from] >= 2) {
                    continue;
                }
                int seen = 0;
                for (int to = 0; to < 64; to++) {
                    seen += (asked >> to & 1) != 0 && kinds[to] == 0 && sees(kinds, from, to) ? 1 : 0;
                }
                if (seen > most) {
                    most = seen;
                    best = from;
                }
            }
            return best;
        }

        int join(int a, int b, int v, int weight) {
            if (a < 0 || a > 7 || b < 0 || b > 7 || a == b) {
                return UNKNOWN;
            }
            if (v < -99 || v > 99 || weight < 1 || weight > 50) {
                return OUTSIDE;
            }
            if (joins.size() == 12) {
                return FULL;
            }
            joins.add(new int[] {a, b, v, weight});
            return joins.size() - 1;
        }

        int agrees(int set) {
            if (set < 0 || set >= 1 << joins.size()) {
                return OUTSIDE;
            }
            // Numbers are handed on from spot to spot, over and over, from each spot that has none yet.
            Integer[] numbers = new Integer[8];
            for (int spot = 0; spot < 8; spot++) {
                if (numbers[spot] == null) {
                    numbers[spot] = 0;
                }
                for (int k = 0; k < 8; k++) {
                    for (int j = 0; j < joins.size(); j++) {
                        if ((set >> j & 1) == 0) {
                            continue;
                        }
                        int[] join = joins.get(j);
                        if (numbers[join[0]] != null && numbers[join[1]] == null) {
                            numbers[join[1]] = numbers[join[0]] + join[2];
                        } else if (numbers[join[0]] == null && numbers[join[1]] != null) {
                            numbers[join[0]] = numbers[join[1]] - join[2];
                        } else if (numbers[join[0]] != null && numbers[join[1]] - numbers[join[0]] != join[2]) {
                            return 0;
                        }
                    }
                }
            }
            return 1;
        }

        int kept() {
            int best = 0;
            int most = 0;
            for (int set = 0; set < 1 << joins.size(); set++) {
                int weight = 0;
                for (int j = 0; j < joins.size(); j++) {
                    weight += (set >> j & 1) * joins.get(j)[3];
                }
                if (weight > most && agrees(set) == 1) {
                    most = weight;
                    best = set;
                }
            }
            return best;
        }

        int begin(int[] step) {
            return joins.get(step[0])[step[1]];
        }

        int end(int[] step) {
            return joins.get(step[0])[1 - step[1]];
        }

        int loop(int join, boolean isBack) {
            if (join < 0 || join >= joins.size()) {
                return UNKNOWN;
            }
            int[] step = {join, isBack ? 1 : 0};
            if (!row.isEmpty() && end(row.get(row.size() - 1)) != begin(step)) {
                return NOT;
            }
            if (row.size() == 8) {
                return FULL;
            }
            row.add(step);
            return row.size();
        }

        int unloop() {
            int had = row.size();
            row.clear();
            return had;
        }

        int spread(int i, int part) {
            if (i < -1 || i >= row.size() || part < 0 || part > 1 || row.isEmpty()
                    || begin(row.get(0)) != end(row.get(row.size() - 1))) {
                return Integer.MIN_VALUE;
            }
            long miss = 0;
            long loose = 0;
            for (int[] step : row) {
                miss += (step[1] == 1 ? -1 : 1) * joins.get(step[0])[2];
                loose += 50 - joins.get(step[0])[3] + 1;
            }
            if (i == -1) {
                return part == 0 ? (int) miss : 1;
            }
            int[] step = row.get(i);
            long above = (step[1] == 1 ? -1 : 1) * joins.get(step[0])[2] * loose - miss * (51 - joins.get(step[0])[3]);
            long below = loose;
            for (long d = below; d > 1; d--) {
                if (above % d == 0 && below % d == 0) {
                    above /= d;
                    below /= d;
                }
            }
            return (int) (part == 0 ? above : below);
        }

        int length(int lo, int hi, int truly) {
            if (lo < 0 || hi > 999 || lo > hi || truly < -1 || truly > 999) {
                return OUTSIDE;
            }
            if (lengths.size() == 20) {
                return FULL;
            }
            lengths.add(new int[] {lo, hi, truly});
            return lengths.size();
        }

        int heldWith(int w) {
            int held = 0;
            for (int[] length : lengths) {
                held += length[2] != -1 && length[2] >= length[0] - w && length[2] <= length[1] + w ? 1 : 0;
            }
            return held;
        }

        int held(int what) {
            return what == 0 ? heldWith(0) : what == 1 ? heldWith(1000) : OUTSIDE;
        }

        int span(int hundredths) {
            if (hundredths < 0 || hundredths > 100) {
                return OUTSIDE;
            }
            if (held(1) == 0) {
                return NONE;
            }
            int w = 0;
            while (heldWith(w) * 100 < hundredths * held(1)) {
                w++;
            }
            return w;
        }

        int count(int what) {
            int hits = 0;
            int standing = 0;
            for (int s = 0; s < sweeps.size(); s++) {
                hits += sweeps.get(s).size();
                standing += stood.get(s) == null ? 0 : 1;
            }
            switch (what) {
                case 0: return sweeps.size();
                case 1: return standing;
                case 2: return hits;
                case 3: return roomList().size();
                case 4: return text.size();
                case 5: return thing == null ? 0 : thing.size();
                case 6: return joins.size();
                case 7: return row.size();
                case 8: return lengths.size();
                default: return OUTSIDE;
            }
        }
    }
}
