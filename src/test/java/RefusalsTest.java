import java.util.ArrayList;
import java.util.List;

/**
 * "Refused, and nothing changes: UNKNOWN, OUTSIDE, NOT, FULL: the first of these that fits." Each refused call is made
 * on one of two halls that were built alike; all that can be asked, and what later calls do, must be alike then.
 */
public final class RefusalsTest extends Checks {
    private interface Build {
        void on(RoomsCaught x);
    }

    private interface Call {
        long on(RoomsCaught x);
    }

    /** Some of everything, and room for more: the row is closed, THE TEXT has a FAULT. */
    private static final Build BUSY = RefusalsTest::buildBusy;
    /** As much as there may be of everything. */
    private static final Build FULL_UP = RefusalsTest::buildFull;
    /** A row that is not closed, a TEXT without FAULT, no THING. */
    private static final Build OPEN = RefusalsTest::buildOpen;
    private static final Build NEW_ONE = x -> { };

    public static void main(String[] args) {
        refusedSweeps();
        refusedHits();
        refusedStands();
        refusedParts();
        refusedSets();
        refusedWays();
        refusedFits();
        refusedBars();
        refusedPlaces();
        refusedTexts();
        refusedYears();
        refusedJoins();
        refusedLoops();
        refusedSpreads();
        refusedLengths();
        asked();
        end("what is refused changes nothing, and the first that fits is answered");
    }

    private static void buildBusy(RoomsCaught x) {
        int around = make(x, -1, -1, 1, 0, -1, 2, 1, -1, 3, -1, 0, 4, 1, 0, 5, -1, 1, 6, 0, 1, 7, 1, 1, 8);
        int askew = make(x, 2, 0, 3, 0, 2, 0, 3, 3, 9);
        make(x, 0, -1, 2, 1, -1, 3, 1, 0, 5);
        x.sweep();
        make(x, 7, 0, 0, -1, 0, 0);
        x.stand(around, 9, 0);
        x.stand(askew, 36, 1);
        x.keep(0);
        x.part(askew);
        x.stand(askew, 35, 2);
        x.keep(1);
        x.set(0, 1);
        x.set(1, 2);
        x.set(2, 3);
        type(x, "hit 0 0;empty 1 0;mark 9 3 3");
        x.thing();
        type(x, "hit 1 1;emp");
        x.join(0, 1, 5, 10);
        x.join(1, 2, 5, 10);
        x.join(0, 2, 11, 15);
        x.join(2, 0, -10, 3);
        x.loop(0, false);
        x.loop(1, false);
        x.loop(2, true);
        x.length(10, 20, 25);
        x.length(10, 20, -1);
        x.length(10, 20, 15);
    }

    private static void buildFull(RoomsCaught x) {
        int[] many = new int[48];
        for (int i = 0; i < 16; i++) {
            many[3 * i] = i % 4;
            many[3 * i + 1] = i / 4 + 1;
            many[3 * i + 2] = i % 10;
        }
        x.stand(make(x, many), 0, 0);
        make(x, many);
        for (int i = 2; i < 8; i++) {
            make(x, i % 3 + 1, i / 3, i);
        }
        x.stand(7, 40, 3);
        x.keep(0);
        x.part(7);
        x.keep(1);
        x.keep(2);
        StringBuilder ten = new StringBuilder("hit 1 1");
        for (int i = 1; i < 10; i++) {
            ten.append(";hit 1 1");
        }
        type(x, ten.toString());
        x.thing();
        type(x, ten + ";" + ten + " ");
        for (int i = 0; i < 12; i++) {
            x.join(i % 2, 1 - i % 2, i, i + 1);
        }
        for (int i = 0; i < 8; i++) {
            x.loop(i, false);
        }
        for (int i = 0; i < 20; i++) {
            x.length(i, 2 * i, i % 3 * 10);
        }
    }

    private static void buildOpen(RoomsCaught x) {
        make(x, 1, 0, 1);
        type(x, "hit 0 0");
        x.join(0, 1, 5, 10);
        x.join(2, 3, 1, 1);
        x.loop(0, false);
        x.length(1, 2, -1);
    }

    /** Answers with what was asked, for two halls to be compared. */
    private static final class Trace {
        final List<String> names = new ArrayList<>();
        final List<Long> answers = new ArrayList<>();

        void add(String name, long answer) {
            names.add(name);
            answers.add(answer);
        }
    }

    private static Trace traceOf(RoomsCaught x) {
        Trace trace = new Trace();
        askHall(x, trace);
        askRest(x, trace);
        goOn(x, trace);
        takeApart(x, trace);
        return trace;
    }

    private static void askHall(RoomsCaught x, Trace trace) {
        for (int what = 0; what <= 8; what++) {
            trace.add("count " + what, x.count(what));
        }
        for (int what = 0; what <= 3; what++) {
            trace.add("cells " + what, x.cells(what));
            trace.add("rooms " + what, x.rooms(what));
            trace.add("wall " + what, x.wall(what));
        }
        for (int cell = 0; cell < 64; cell += 9) {
            trace.add("lead " + cell, x.lead(cell, 0));
            trace.add("lead " + cell, x.lead(cell, 1));
        }
        trace.add("wall", x.wall(-1));
        trace.add("corners", x.corners());
        trace.add("doors", x.doors());
        trace.add("away", x.away(0, 1));
        trace.add("next", x.next(-1, -1));
        for (int sweep = 0; sweep < 8; sweep++) {
            trace.add("way " + sweep, x.way(sweep, -1));
            trace.add("way " + sweep, x.way(sweep, 0));
        }
    }

    private static void askRest(RoomsCaught x, Trace trace) {
        trace.add("fault", x.fault());
        for (int i = -1; i <= 3; i++) {
            trace.add("fit " + i, x.fit(i));
        }
        for (int k = 0; k < 9; k++) {
            for (int what = 0; what <= 2; what++) {
                trace.add("since " + k, x.since(k / 3, k % 3, what));
            }
            trace.add("moved " + k, x.moved(k / 3, k % 3, 1));
        }
        trace.add("kept", x.kept());
        for (int join = 0; join < 12; join++) {
            trace.add("agrees " + join, x.agrees(3 << join));
        }
        for (int i = -1; i < 8; i++) {
            trace.add("spread " + i, x.spread(i, 0));
            trace.add("spread " + i, x.spread(i, 1));
        }
        trace.add("held", x.held(0));
        trace.add("held", x.held(1));
        for (int hundredths = 0; hundredths <= 100; hundredths += 25) {
            trace.add("span " + hundredths, x.span(hundredths));
        }
    }

    /** Calls that change something go on from where the hall is. */
    private static void goOn(RoomsCaught x, Trace trace) {
        trace.add("loop", x.loop(0, false));
        trace.add("loop", x.loop(0, true));
        trace.add("unloop", x.unloop());
        trace.add("thing", x.thing());
        trace.add("write", x.write(bytesOf(" 1"), 2));
        trace.add("fault", x.fault());
        trace.add("erase", x.erase());
        trace.add("join", x.join(0, 1, 5, 50));
        trace.add("kept", x.kept());
        trace.add("length", x.length(0, 999, 500));
        trace.add("held", x.held(0));
        trace.add("keep", x.keep(2));
        trace.add("set", x.set(0, 0));
        trace.add("set", x.set(1, 16));
        trace.add("set", x.set(2, 10));
        trace.add("sweep", x.sweep());
    }

    /** Where each SWEEP stood, and what its HITS are, each alone in the hall. */
    private static void takeApart(RoomsCaught x, Trace trace) {
        for (int sweep = 0; sweep < 8; sweep++) {
            trace.add("part " + sweep, x.part(sweep));
        }
        for (int sweep = 0; sweep < 8; sweep++) {
            trace.add("ways " + sweep, x.way(sweep, -1));
            int way = x.way(sweep, 0);
            trace.add("way " + sweep, way);
            trace.add("stand " + sweep, x.stand(sweep, way >> 2, way & 3));
            trace.add("HIT " + sweep, x.cells(2));
            trace.add("EMPTY " + sweep, x.cells(1));
            trace.add("fit " + sweep, x.fit(-1));
            trace.add("part " + sweep, x.part(sweep));
        }
    }

    private static void alike(String name, Build build, Call call) {
        RoomsCaught touched = new RoomsCaught();
        RoomsCaught plain = new RoomsCaught();
        build.on(touched);
        build.on(plain);
        call.on(touched);
        Trace got = traceOf(touched);
        Trace want = traceOf(plain);
        for (int i = 0; i < want.answers.size(); i++) {
            due(name + ", then " + want.names.get(i), got.answers.get(i), want.answers.get(i));
        }
    }

    private static void refused(String name, Build build, long want, Call call) {
        alike(name, build, x -> {
            long got = call.on(x);
            due(name, got, want);
            return got;
        });
    }

    private static void refusedSweeps() {
        promise = "2 refused";
        refused("a ninth", FULL_UP, FULL, x -> x.sweep());
    }

    private static void refusedHits() {
        promise = "3 refused";
        refused("no SWEEP", NEW_ONE, UNKNOWN, x -> x.hit(0, 1, 1, 0));
        refused("the next SWEEP", BUSY, UNKNOWN, x -> x.hit(5, 1, 1, 0));
        refused("SWEEP -1", BUSY, UNKNOWN, x -> x.hit(-1, 1, 1, 0));
        refused("a ninth SWEEP", FULL_UP, UNKNOWN, x -> x.hit(8, 1, 1, 0));
        refused("UNKNOWN ahead of OUTSIDE: x", BUSY, UNKNOWN, x -> x.hit(5, 8, 1, 0));
        refused("UNKNOWN ahead of OUTSIDE: y", BUSY, UNKNOWN, x -> x.hit(5, 1, 8, 0));
        refused("UNKNOWN ahead of OUTSIDE: mark", BUSY, UNKNOWN, x -> x.hit(5, 1, 1, 10));
        refused("UNKNOWN ahead of OUTSIDE: the MIDDLE", BUSY, UNKNOWN, x -> x.hit(5, 0, 0, 0));
        refused("OUTSIDE", BUSY, OUTSIDE, x -> x.hit(2, 8, 1, 0));
        refused("the MIDDLE", BUSY, OUTSIDE, x -> x.hit(2, 0, 0, 0));
        refused("mark", BUSY, OUTSIDE, x -> x.hit(2, 4, 4, 10));
        refused("OUTSIDE ahead of NOT: STANDS, x", BUSY, OUTSIDE, x -> x.hit(0, -8, 1, 0));
        refused("OUTSIDE ahead of NOT: STANDS, the MIDDLE", BUSY, OUTSIDE, x -> x.hit(0, 0, 0, 0));
        refused("OUTSIDE ahead of NOT: a spot that is taken, mark", BUSY, OUTSIDE, x -> x.hit(2, 0, -1, 10));
        refused("OUTSIDE ahead of FULL", FULL_UP, OUTSIDE, x -> x.hit(1, 0, -8, 0));
        refused("OUTSIDE ahead of FULL: mark", FULL_UP, OUTSIDE, x -> x.hit(1, 5, 5, -1));
        refused("OUTSIDE ahead of NOT and FULL", FULL_UP, OUTSIDE, x -> x.hit(0, 0, 0, 0));
        refused("STANDS", BUSY, NOT, x -> x.hit(0, 5, 5, 0));
        refused("taken", BUSY, NOT, x -> x.hit(2, 0, -1, 2));
        refused("taken, another MARK", BUSY, NOT, x -> x.hit(2, 0, -1, 7));
        refused("NOT ahead of FULL: taken", FULL_UP, NOT, x -> x.hit(1, 0, 1, 0));
        refused("NOT ahead of FULL: STANDS", FULL_UP, NOT, x -> x.hit(0, 5, 5, 0));
        refused("FULL", FULL_UP, FULL, x -> x.hit(1, 5, 5, 0));
    }

    private static void refusedStands() {
        promise = "4 refused";
        refused("no SWEEP", BUSY, UNKNOWN, x -> x.stand(5, 0, 0));
        refused("CELL 64", BUSY, UNKNOWN, x -> x.stand(3, 64, 0));
        refused("UNKNOWN ahead of OUTSIDE: SWEEP", BUSY, UNKNOWN, x -> x.stand(5, 0, 4));
        refused("UNKNOWN ahead of OUTSIDE: CELL", BUSY, UNKNOWN, x -> x.stand(3, -1, 4));
        refused("UNKNOWN ahead of NOT: STANDS", BUSY, UNKNOWN, x -> x.stand(0, 64, 0));
        refused("UNKNOWN ahead of NOT: out", BUSY, UNKNOWN, x -> x.stand(4, 64, 0));
        refused("UNKNOWN ahead of both", BUSY, UNKNOWN, x -> x.stand(0, 64, -1));
        refused("OUTSIDE", BUSY, OUTSIDE, x -> x.stand(3, 0, 4));
        refused("OUTSIDE ahead of NOT: STANDS", BUSY, OUTSIDE, x -> x.stand(0, 9, 4));
        refused("OUTSIDE ahead of NOT: out", BUSY, OUTSIDE, x -> x.stand(4, 9, -1));
        refused("STANDS", BUSY, NOT, x -> x.stand(0, 9, 0));
        refused("STANDS, another place", BUSY, NOT, x -> x.stand(0, 27, 2));
        refused("STANDS, out there", BUSY, NOT, x -> x.stand(0, 0, 0));
        refused("a HIT is out", BUSY, NOT, x -> x.stand(2, 7, 0));
        refused("a HIT is out everywhere", BUSY, NOT, x -> x.stand(4, 27, 0));
        refused("a HIT is out, where it stood once", FULL_UP, NOT, x -> x.stand(7, 63, 0));
    }

    private static void refusedParts() {
        promise = "5 refused";
        refused("no SWEEP", NEW_ONE, UNKNOWN, x -> x.part(0));
        refused("no SWEEP", BUSY, UNKNOWN, x -> x.part(5));
        refused("SWEEP -1", BUSY, UNKNOWN, x -> x.part(-1));
        refused("apart", BUSY, NOT, x -> x.part(2));
        refused("apart again", FULL_UP, NOT, x -> x.part(7));
    }

    private static void refusedSets() {
        promise = "6 refused";
        refused("what -1", BUSY, OUTSIDE, x -> x.set(-1, 5));
        refused("what 3", BUSY, OUTSIDE, x -> x.set(3, 5));
        refused("NEED 17", BUSY, OUTSIDE, x -> x.set(0, 17));
        refused("NEED -1", BUSY, OUTSIDE, x -> x.set(0, -1));
        refused("MISS 17", BUSY, OUTSIDE, x -> x.set(1, 17));
        refused("MISS -1", BUSY, OUTSIDE, x -> x.set(1, -1));
        refused("PRICE 11", BUSY, OUTSIDE, x -> x.set(2, 11));
        refused("PRICE -1", BUSY, OUTSIDE, x -> x.set(2, -1));
    }

    private static void refusedWays() {
        promise = "7 refused";
        refused("no SWEEP", BUSY, UNKNOWN, x -> x.way(5, -1));
        refused("UNKNOWN ahead of OUTSIDE", BUSY, UNKNOWN, x -> x.way(5, -2));
        refused("OUTSIDE", BUSY, OUTSIDE, x -> x.way(2, -2));
        refused("OUTSIDE ahead of NOT", BUSY, OUTSIDE, x -> x.way(0, -2));
        refused("STANDS", BUSY, NOT, x -> x.way(0, -1));
    }

    private static void refusedFits() {
        promise = "8 refused";
        refused("no SWEEP", BUSY, UNKNOWN, x -> x.fits(5, 0, 0, 0));
        refused("CELL 64", BUSY, UNKNOWN, x -> x.fits(2, 64, 0, 0));
        refused("UNKNOWN ahead of OUTSIDE: SWEEP, TURN", BUSY, UNKNOWN, x -> x.fits(5, 0, 4, 0));
        refused("UNKNOWN ahead of OUTSIDE: SWEEP, what", BUSY, UNKNOWN, x -> x.fits(5, 0, 0, 2));
        refused("UNKNOWN ahead of OUTSIDE: CELL, TURN", BUSY, UNKNOWN, x -> x.fits(2, 64, 4, 0));
        refused("UNKNOWN ahead of OUTSIDE: CELL, what", BUSY, UNKNOWN, x -> x.fits(2, -1, 0, 2));
        refused("UNKNOWN ahead of NOT", BUSY, UNKNOWN, x -> x.fits(0, 64, 0, 0));
        refused("TURN", BUSY, OUTSIDE, x -> x.fits(2, 0, 4, 0));
        refused("what", BUSY, OUTSIDE, x -> x.fits(2, 0, 0, 2));
        refused("OUTSIDE ahead of NOT: TURN", BUSY, OUTSIDE, x -> x.fits(0, 9, -1, 0));
        refused("OUTSIDE ahead of NOT: what", BUSY, OUTSIDE, x -> x.fits(0, 9, 0, -1));
        refused("OUTSIDE ahead of NONE: what", BUSY, OUTSIDE, x -> x.fits(4, 9, 0, 2));
        refused("STANDS", BUSY, NOT, x -> x.fits(0, 9, 0, 0));
        refused("NOT ahead of NONE", BUSY, NOT, x -> x.fits(0, 0, 0, 1));
    }

    private static void refusedBars() {
        promise = "9 refused";
        refused("no SWEEP", BUSY, UNKNOWN, x -> x.bars(5, 0, 0));
        refused("CELL 64", BUSY, UNKNOWN, x -> x.bars(2, 64, 0));
        refused("UNKNOWN ahead of OUTSIDE: SWEEP", BUSY, UNKNOWN, x -> x.bars(5, 0, 4));
        refused("UNKNOWN ahead of OUTSIDE: CELL", BUSY, UNKNOWN, x -> x.bars(2, 64, 4));
        refused("UNKNOWN ahead of NOT", BUSY, UNKNOWN, x -> x.bars(0, -1, 0));
        refused("TURN", BUSY, OUTSIDE, x -> x.bars(2, 0, 4));
        refused("OUTSIDE ahead of NOT", BUSY, OUTSIDE, x -> x.bars(0, 9, 4));
        refused("OUTSIDE ahead of 0: a HIT is out", BUSY, OUTSIDE, x -> x.bars(4, 9, 4));
        refused("STANDS", BUSY, NOT, x -> x.bars(0, 9, 0));
        refused("NOT ahead of 0: a HIT is out", BUSY, NOT, x -> x.bars(0, 0, 0));
    }

    private static void refusedPlaces() {
        promise = "10 to 18, 27 refused";
        refused("cell", BUSY, UNKNOWN, x -> x.cell(64));
        refused("cells", BUSY, 0, x -> x.cells(4));
        refused("lead: CELL", BUSY, UNKNOWN, x -> x.lead(-1, 0));
        refused("lead: UNKNOWN ahead of OUTSIDE", BUSY, UNKNOWN, x -> x.lead(64, 2));
        refused("lead: what", BUSY, OUTSIDE, x -> x.lead(0, 2));
        refused("wall", BUSY, OUTSIDE, x -> x.wall(-2));
        refused("room", BUSY, UNKNOWN, x -> x.room(64));
        refused("rooms", BUSY, 0, x -> x.rooms(1));
        refused("away: the first", BUSY, UNKNOWN, x -> x.away(1, 0));
        refused("away: the second", BUSY, UNKNOWN, x -> x.away(0, 1));
        refused("see: the first", BUSY, UNKNOWN, x -> x.see(64, 0));
        refused("see: the second", BUSY, UNKNOWN, x -> x.see(63, -1));
        refused("see: UNKNOWN ahead of NOT", BUSY, UNKNOWN, x -> x.see(0, 64));
        refused("see: HIT", BUSY, NOT, x -> x.see(0, 63));
    }

    private static void refusedTexts() {
        promise = "19 to 23 refused";
        refused("write: n 0", BUSY, OUTSIDE, x -> x.write(-1, 0));
        refused("write: n 9", BUSY, OUTSIDE, x -> x.write(-1, 9));
        refused("write: n -1", BUSY, OUTSIDE, x -> x.write(-1, -1));
        refused("write: OUTSIDE ahead of FULL", FULL_UP, OUTSIDE, x -> x.write(-1, 9));
        refused("write: OUTSIDE ahead of FULL", FULL_UP, OUTSIDE, x -> x.write(-1, 0));
        refused("write: FULL", FULL_UP, FULL, x -> x.write(-1, 1));
        refused("write: FULL by one", x -> typeOn(x, " ".repeat(153), 0), FULL, x -> x.write(-1, 8));
        refused("thing: FAULT", BUSY, NOT, x -> x.thing());
        refused("thing: 20 LINES", FULL_UP, NOT, x -> x.thing());
        refused("thing: empty", NEW_ONE, NOT, x -> x.thing());
        refused("fit: OUTSIDE", BUSY, OUTSIDE, x -> x.fit(-2));
        refused("fit: OUTSIDE ahead of NOT", OPEN, OUTSIDE, x -> x.fit(-2));
        refused("fit: no THING", OPEN, NOT, x -> x.fit(-1));
    }

    private static void refusedYears() {
        promise = "24 to 26 refused";
        refused("keep(3", BUSY, UNKNOWN, x -> x.keep(3));
        refused("keep(-1", FULL_UP, UNKNOWN, x -> x.keep(-1));
        refused("since: CATCH", BUSY, 0, x -> x.since(0, 3, 2));
        refused("since: what", BUSY, 0, x -> x.since(0, 1, 3));
        refused("moved: the first", BUSY, UNKNOWN, x -> x.moved(3, 0, 0));
        refused("moved: the second", BUSY, UNKNOWN, x -> x.moved(0, -1, 0));
        refused("moved: UNKNOWN ahead of OUTSIDE", BUSY, UNKNOWN, x -> x.moved(0, 3, 2));
        refused("moved: what", BUSY, OUTSIDE, x -> x.moved(0, 1, 2));
    }

    private static void refusedJoins() {
        promise = "29, 30 refused";
        refused("SPOT 8", BUSY, UNKNOWN, x -> x.join(8, 0, 1, 1));
        refused("SPOT -1", BUSY, UNKNOWN, x -> x.join(0, -1, 1, 1));
        refused("itself", BUSY, UNKNOWN, x -> x.join(3, 3, 1, 1));
        refused("UNKNOWN ahead of OUTSIDE: v", BUSY, UNKNOWN, x -> x.join(0, 8, 100, 1));
        refused("UNKNOWN ahead of OUTSIDE: WEIGHT", BUSY, UNKNOWN, x -> x.join(0, 8, 1, 0));
        refused("UNKNOWN ahead of OUTSIDE: itself", BUSY, UNKNOWN, x -> x.join(2, 2, 100, 51));
        refused("UNKNOWN ahead of FULL", FULL_UP, UNKNOWN, x -> x.join(0, 8, 1, 1));
        refused("UNKNOWN ahead of FULL: itself", FULL_UP, UNKNOWN, x -> x.join(0, 0, 1, 1));
        refused("v 100", BUSY, OUTSIDE, x -> x.join(0, 1, 100, 1));
        refused("WEIGHT 0", BUSY, OUTSIDE, x -> x.join(0, 1, 1, 0));
        refused("WEIGHT 51", BUSY, OUTSIDE, x -> x.join(0, 1, 1, 51));
        refused("OUTSIDE ahead of FULL: v", FULL_UP, OUTSIDE, x -> x.join(0, 1, -100, 1));
        refused("OUTSIDE ahead of FULL: WEIGHT", FULL_UP, OUTSIDE, x -> x.join(0, 1, 1, 51));
        refused("FULL", FULL_UP, FULL, x -> x.join(0, 1, 1, 50));
        refused("agrees: bit 4", BUSY, OUTSIDE, x -> x.agrees(16));
        refused("agrees: bit 4 and others", BUSY, OUTSIDE, x -> x.agrees(31));
        refused("agrees: -1", FULL_UP, OUTSIDE, x -> x.agrees(-1));
    }

    private static void refusedLoops() {
        promise = "32 refused";
        refused("no JOIN", BUSY, UNKNOWN, x -> x.loop(4, false));
        refused("JOIN -1", BUSY, UNKNOWN, x -> x.loop(-1, true));
        refused("UNKNOWN ahead of FULL", FULL_UP, UNKNOWN, x -> x.loop(12, false));
        refused("it begins elsewhere", BUSY, NOT, x -> x.loop(1, false));
        refused("it begins elsewhere, back", BUSY, NOT, x -> x.loop(0, true));
        refused("it begins elsewhere, of an open row", OPEN, NOT, x -> x.loop(1, false));
        refused("NOT ahead of FULL", FULL_UP, NOT, x -> x.loop(1, false));
        refused("FULL", FULL_UP, FULL, x -> x.loop(0, false));
        refused("FULL, back", FULL_UP, FULL, x -> x.loop(1, true));
    }

    private static void refusedSpreads() {
        promise = "34 refused: the least int";
        refused("i -2", BUSY, LEAST, x -> x.spread(-2, 0));
        refused("i 3", BUSY, LEAST, x -> x.spread(3, 0));
        refused("part 2", BUSY, LEAST, x -> x.spread(0, 2));
        refused("part -1", BUSY, LEAST, x -> x.spread(-1, -1));
        refused("open", OPEN, LEAST, x -> x.spread(0, 0));
        refused("open, -1", OPEN, LEAST, x -> x.spread(-1, 1));
        refused("empty", NEW_ONE, LEAST, x -> x.spread(-1, 0));
    }

    private static void refusedLengths() {
        promise = "35 to 38 refused";
        refused("lo above hi", BUSY, OUTSIDE, x -> x.length(2, 1, 1));
        refused("lo -1", BUSY, OUTSIDE, x -> x.length(-1, 1, 1));
        refused("hi 1000", BUSY, OUTSIDE, x -> x.length(0, 1000, 1));
        refused("truly -2", BUSY, OUTSIDE, x -> x.length(0, 1, -2));
        refused("truly 1000", BUSY, OUTSIDE, x -> x.length(0, 1, 1000));
        refused("OUTSIDE ahead of FULL", FULL_UP, OUTSIDE, x -> x.length(2, 1, 1));
        refused("OUTSIDE ahead of FULL: truly", FULL_UP, OUTSIDE, x -> x.length(0, 1, 1000));
        refused("FULL", FULL_UP, FULL, x -> x.length(0, 999, 1));
        refused("held", BUSY, OUTSIDE, x -> x.held(2));
        refused("span", BUSY, OUTSIDE, x -> x.span(101));
        refused("span: OUTSIDE ahead of NONE", OPEN, OUTSIDE, x -> x.span(-1));
        refused("count", BUSY, OUTSIDE, x -> x.count(9));
    }

    /** What only asks changes nothing either, in whichever hall. */
    private static void asked() {
        promise = "asked";
        for (Build build : new Build[] {NEW_ONE, OPEN, BUSY, FULL_UP}) {
            alike("way", build, x -> x.way(2, -1) + x.way(1, 0));
            alike("fits", build, x -> x.fits(2, 9, 0, 0) + x.fits(1, 63, 2, 1));
            alike("bars", build, x -> x.bars(2, 10, 1) + x.bars(3, 0, 0));
            alike("cell, cells, lead", build, x -> x.cell(9) + x.cells(1) + x.lead(9, 1));
            alike("wall, corners, doors", build, x -> x.wall(0) + x.corners() + x.doors());
            alike("room, rooms, away", build, x -> x.room(9) + x.rooms(0) + x.away(0, 0));
            alike("fault", build, x -> x.fault());
            alike("fit", build, x -> x.fit(-1) + x.fit(0));
            alike("since, moved", build, x -> x.since(0, 1, 2) + x.moved(0, 1, 1));
            alike("see, next", build, x -> x.see(40, 63) + x.next(-1, -1));
            alike("agrees, kept", build, x -> x.agrees(1) + x.kept());
            alike("spread", build, x -> x.spread(0, 0) + x.spread(-1, 1));
            alike("held, span, count", build, x -> x.held(0) + x.span(50) + x.count(2));
        }
    }
}
