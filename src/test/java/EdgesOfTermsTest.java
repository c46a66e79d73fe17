/** Edges of 'What it is', and of what 'Terms' says of all calls: each method is about the words that it quotes. */
public final class EdgesOfTermsTest {
    private static final int LOW = Integer.MIN_VALUE, HIGH = Integer.MAX_VALUE;

    public static void main(String[] args) {
        the512thCall();
        numbersGoFromNull();
        badGoesFirst();
        badGoesAheadOfFull();
        stateAndFullGoAheadOfFindings();
        findingsInTime();
        findingsHaveNumbers();
        refusedOfSheets();
        refusedOfStrokes();
        refusedOfTicks();
        refusedOfCuesAndAsks();
        refusedWithoutStrokes();
        refusedWhereItIsFull();
        Check.end();
    }

    private static void the512thCall() {
        Check.says("An object is used for at most 512 calls after it has been made; what later calls answer is free.");
        LightLines x = new LightLines();
        x.sheet(0, 2, 2);
        x.set(0, 0, 300);
        x.set(0, 1, 400);
        x.stroke(0, 0, 1);
        for (int call = 5; call < 512; call++) {
            x.rule(0, 1 + call % 2);
        }
        // The 511th call told SPEED 2: 200 ticks, WAIT, one, WAIT, 200.
        Check.due("the 512th call", x.ticks(), 403);
        LightLines busy = new LightLines();
        for (int round = 0; round < 128; round++) {
            busy.best();
            busy.feed(32, 1);
            busy.sheet(round % 8, 2, 40);
            Check.due("call " + (4 * round + 4), busy.stroke(round % 8, 0, 8), round < 8 ? round : Check.FULL);
        }
        for (int i = 0; i < 2000; i++) {
            busy.stroke(i, i, i);
            busy.feed(i, i % 9);
            busy.cues();
            busy.best();
            busy.ticks();
        }
        Check.due("none of the later calls has thrown", 1, 1);
    }

    private static void numbersGoFromNull() {
        Check.says("Numbers go from 0 on.");
        LightLines x = new LightLines();
        Check.due("the first sheet", x.sheet(0, 2, 2), 2);
        Check.due("its first item", x.set(0, 0, 60), 60);
        Check.due("the first stroke", x.stroke(0, 0, 1), 0);
        Check.due("its first point", x.point(0, 0, 0), 60);
        Check.due("the first one of the plan", x.order(0, 0), 0);
        Check.due("the first tick", x.tick(0, 0), 30);
        Check.due("the first zone", x.zone(0, 0, 0, 0, 0), 1);
        Check.due("the first number of the trace", x.ask(0, 0) + x.trace(0), 13);
        Check.due("the first cell", x.burn(0, 0), 1);
        Check.due("the first frame", x.frame(0, 1), 100);
    }

    private static void badGoesFirst() {
        Check.says("Refusals are answers, the first of these that fits: BAD (a number is not as told; there is no such thing)");
        LightLines x = new LightLines();
        Check.due("plan: BAD, not STATE", x.plan(8, 0), Check.BAD);
        Check.due("plan: BAD, not STATE nor PLACE", x.plan(-1, -1), Check.BAD);
        Check.due("sheet: a sheet that is none, not SIZE", x.sheet(8, 0, -1), Check.BAD);
        Check.due("sheet: a lane that is none, not SIZE", x.sheet(0, 3, -1), Check.BAD);
        Check.due("set: BAD, not NULL", x.set(8, -1, 0), Check.BAD);
        Check.due("copy: b is none, a is missing", x.copy(0, 0, 8, 0, 0), Check.BAD);
        Check.due("copy: a is none, b is missing", x.copy(-1, 0, 0, 0, 0), Check.BAD);
        Check.due("drop: BAD, not NULL", x.drop(8), Check.BAD);
        Check.due("stroke: n, not NULL", x.stroke(0, 0, 9), Check.BAD);
        Check.due("order: what, not NONE", x.order(-1, 2), Check.BAD);
        Check.due("tick: what, not NONE", x.tick(-1, 8), Check.BAD);
        Check.draw(x, 5, 5);
        x.sheet(0, 0, 2);
        Check.due("copy: b is none, places, too", x.copy(0, -1, 8, -1, -1), Check.BAD);
        Check.due("stroke: n, not PLACE", x.stroke(0, -1, 0), Check.BAD);
        Check.due("as: a kind that is none, not KIND", x.as(0, 4), Check.BAD);
        Check.due("as: a stroke that is none, not KIND", x.as(1, 3), Check.BAD);
    }

    private static void badGoesAheadOfFull() {
        Check.says("BAD (a number is not as told; there is no such thing), STATE (as told), FULL");
        LightLines x = new LightLines();
        allFull(x);
        Check.due("ticks are too many", x.ticks(), Check.FULL);
        Check.due("stroke: a sheet that is none", x.stroke(8, 0, 1), Check.BAD);
        Check.due("stroke: no points", x.stroke(0, 0, 0), Check.BAD);
        Check.due("stroke: nine points", x.stroke(0, 0, 9), Check.BAD);
        Check.due("tick: what 8", x.tick(0, 8), Check.BAD);
        Check.due("all: what 6", x.all(6), Check.BAD);
        Check.due("burn: x 11", x.burn(11, 0), Check.BAD);
        Check.due("burn: y -1", x.burn(0, -1), Check.BAD);
        Check.due("feed: no bytes", x.feed(0, 0), Check.BAD);
        Check.due("feed: nine bytes", x.feed(0, 9), Check.BAD);
        Check.due("tick: FULL, not NONE", x.tick(2000, 0), Check.FULL);
        Check.due("tick below 0: FULL, not NONE", x.tick(-1, 0), Check.FULL);
    }

    private static void stateAndFullGoAheadOfFindings() {
        Check.says("STATE (as told), FULL, then FINDINGS");
        LightLines x = new LightLines();
        Check.due("plan: STATE, not NULL", x.plan(0, 0), Check.STATE);
        x.sheet(0, 0, 0);
        Check.due("plan: STATE, not PLACE", x.plan(0, -1), Check.STATE);
        Check.due("plan: STATE, not PLACE beyond", x.plan(0, 1), Check.STATE);
        LightLines full = new LightLines();
        allFull(full);
        Check.due("stroke: FULL, not NULL", full.stroke(6, 0, 1), Check.FULL);
        Check.due("stroke: FULL, not PLACE", full.stroke(0, -1, 1), Check.FULL);
        Check.due("stroke: FULL, not PLACE beyond", full.stroke(0, 40, 1), Check.FULL);
        full.set(0, 0, -1);
        Check.due("stroke: FULL, not BAD of x", full.stroke(0, 0, 1), Check.FULL);
    }

    private static void findingsInTime() {
        Check.says("then FINDINGS, of several the first in time");
        LightLines x = new LightLines();
        x.sheet(0, 0, 3);
        x.sheet(1, 1, 3);
        Check.due("set: NULL, not PLACE", x.set(2, -1, 0), Check.NULL);
        Check.due("copy: a NULL, not PLACE", x.copy(2, -1, 0, -1, -1), Check.NULL);
        Check.due("copy: b NULL, not PLACE", x.copy(0, 0, 2, 0, 4), Check.NULL);
        Check.due("copy: both NULL", x.copy(2, 0, 3, 0, 0), Check.NULL);
        Check.due("copy: STORE, not PLACE of i", x.copy(0, -1, 1, 0, 1), Check.STORE);
        Check.due("copy: STORE, not PLACE of j", x.copy(0, 0, 1, 3, 1), Check.STORE);
        Check.due("copy: STORE, not PLACE of n", x.copy(0, 0, 1, 0, -1), Check.STORE);
        Check.due("stroke: NULL, not PLACE", x.stroke(2, -1, 1), Check.NULL);
        x.set(0, 1, -1);
        Check.due("stroke: PLACE, then BAD", x.stroke(0, 0, 2), Check.PLACE);
        Check.draw(x, 1, 1);
        Check.draw(x, 2, 2);
        Check.due("plan: NULL, not PLACE", x.plan(2, -1), Check.NULL);
        Check.due("plan: PLACE, then BAD", x.plan(0, 0), Check.PLACE);
    }

    private static void findingsHaveNumbers() {
        Check.says("-1000010 less 1 NULL (a SHEET that is missing), 2 PLACE (no such place of a SHEET), "
            + "3 KIND (a STROKE that is not that), 4 SIZE (fewer than none), 5 STORE (SHEETS of two LANES)");
        LightLines x = new LightLines();
        Check.due("NULL", x.drop(7), -1000011);
        Check.due("its number", x.status(), 1);
        x.sheet(0, 0, 2);
        Check.due("PLACE", x.set(0, 2, 0), -1000012);
        Check.due("its number", x.status(), 2);
        x.stroke(0, 0, 1);
        Check.due("KIND", x.as(0, 2), -1000013);
        Check.due("its number", x.status(), 3);
        Check.due("SIZE", x.sheet(0, 0, -1), -1000014);
        Check.due("its number", x.status(), 4);
        x.sheet(1, 2, 2);
        Check.due("STORE", x.copy(0, 0, 1, 0, 1), -1000015);
        Check.due("its number", x.status(), 5);
    }

    /** Something of all that an object can hold; the latest finding is STORE. */
    private static int someOfAll(LightLines x) {
        Check.draw(x, 100, 20, 180, 20, 180, 90);
        Check.draw(x, 40, 60);
        Check.draw(x, 10, 10, 60, 10, 60, 50, 10, 10);
        x.drop(7);
        Check.fill(x, 0, 2, 1, 0, 1, 1, 0);
        Check.fill(x, 5, 2, 0, 1, 0, 2, 1);
        x.sheet(1, 1, 4);
        x.set(1, 1, 300);
        x.sheet(2, 0, 3);
        x.set(2, 2, -3);
        x.sheet(3, 2, 0);
        x.plan(0, 0);
        int[] rules = {30, 2, 12, 9, 1, 3};
        for (int what = 0; what < rules.length; what++) {
            x.rule(what, rules[what]);
        }
        x.zone(1, 90, 0, 130, 40);
        x.zone(3, 50, 50, 70, 70);
        Check.read(x, "at 2 show 1; at 4 fade 20 4;");
        Check.read(x, "at 3 fade 101 1;");
        Check.tell(x, "at 6 dark;");
        x.ask(2, 1);
        return x.copy(0, 0, 1, 0, 0);
    }

    private static void refused(String name, Twins.Call call, int want) {
        Twins.stayAlike(name, EdgesOfTermsTest::someOfAll, call, want);
    }

    private static void refusedOfSheets() {
        Check.says("What is refused, or found, changes nothing but status().");
        refused("sheet -1", x -> x.sheet(-1, 2, 6), Check.BAD);
        refused("sheet 8", x -> x.sheet(8, 2, 6), Check.BAD);
        refused("sheet, lane -1", x -> x.sheet(0, -1, 6), Check.BAD);
        refused("sheet, lane 3", x -> x.sheet(0, 3, 6), Check.BAD);
        refused("sheet, 41", x -> x.sheet(0, 2, 41), Check.BAD);
        refused("sheet, -1 of one that is there", x -> x.sheet(0, 1, -1), Check.SIZE);
        refused("sheet, -1 of a missing one", x -> x.sheet(4, 1, -1), Check.SIZE);
        refused("set -1", x -> x.set(-1, 0, 9), Check.BAD);
        refused("set 8", x -> x.set(8, 0, 9), Check.BAD);
        refused("set missing", x -> x.set(4, 0, 9), Check.NULL);
        refused("set at -1", x -> x.set(0, -1, 9), Check.PLACE);
        refused("set at the end", x -> x.set(0, 6, 9), Check.PLACE);
        refused("set of an empty one", x -> x.set(3, 0, 9), Check.PLACE);
        refused("copy -1", x -> x.copy(-1, 0, 0, 0, 1), Check.BAD);
        refused("copy to 8", x -> x.copy(0, 0, 8, 0, 1), Check.BAD);
        refused("copy to missing", x -> x.copy(0, 0, 4, 0, 1), Check.NULL);
        refused("copy of missing", x -> x.copy(4, 0, 0, 0, 1), Check.NULL);
        refused("copy of two lanes", x -> x.copy(0, 1, 1, 0, 1), Check.STORE);
        refused("copy, i -1", x -> x.copy(5, -1, 0, 0, 2), Check.PLACE);
        refused("copy, j -1", x -> x.copy(5, 1, 0, -1, 2), Check.PLACE);
        refused("copy, n -1", x -> x.copy(5, 1, 0, 1, -1), Check.PLACE);
        refused("copy, n 7", x -> x.copy(5, 0, 0, 0, 7), Check.PLACE);
        refused("copy, one beyond a's end", x -> x.copy(5, 1, 0, 0, 6), Check.PLACE);
        refused("copy, one beyond b's end", x -> x.copy(5, 0, 0, 1, 6), Check.PLACE);
        refused("drop -1", x -> x.drop(-1), Check.BAD);
        refused("drop 8", x -> x.drop(8), Check.BAD);
        refused("drop missing", x -> x.drop(4), Check.NULL);
    }

    private static void refusedOfStrokes() {
        Check.says("What is refused, or found, changes nothing but status().");
        refused("stroke of sheet -1", x -> x.stroke(-1, 0, 1), Check.BAD);
        refused("stroke of sheet 8", x -> x.stroke(8, 0, 1), Check.BAD);
        refused("stroke, no points", x -> x.stroke(0, 0, 0), Check.BAD);
        refused("stroke, nine points", x -> x.stroke(0, 0, 9), Check.BAD);
        refused("stroke of missing", x -> x.stroke(4, 0, 1), Check.NULL);
        refused("stroke from -1", x -> x.stroke(0, -1, 1), Check.PLACE);
        refused("stroke, one beyond the end", x -> x.stroke(0, 1, 3), Check.PLACE);
        refused("stroke, y below 0", x -> x.stroke(2, 1, 1), Check.BAD);
        refused("point of stroke 3", x -> x.point(3, 0, 0), Check.BAD);
        refused("point 3 of three", x -> x.point(0, 3, 0), Check.BAD);
        refused("point, what 2", x -> x.point(0, 0, 2), Check.BAD);
        refused("plan of sheet -1", x -> x.plan(-1, 0), Check.BAD);
        refused("plan of sheet 8", x -> x.plan(8, 0), Check.BAD);
        refused("plan of missing", x -> x.plan(4, 0), Check.NULL);
        refused("plan from -1", x -> x.plan(5, -1), Check.PLACE);
        refused("plan, one beyond the end", x -> x.plan(5, 1), Check.PLACE);
        refused("plan, the first one again", x -> x.plan(5, 0), Check.BAD);
        refused("order, what 2", x -> x.order(0, 2), Check.BAD);
        refused("order, no such one", x -> x.order(3, 0), Check.NONE);
    }

    private static void refusedOfTicks() {
        Check.says("What is refused, or found, changes nothing but status().");
        int[][] rules = {{-1, 1}, {6, 1}, {0, 0}, {0, 1001}, {1, -1}, {1, 6}, {2, 0}, {2, 17}, {3, -1}, {3, 17}, {4, -1}, {4, 6},
            {5, 0}, {5, 1001}, {LOW, 1}, {HIGH, 1}, {0, LOW}, {5, HIGH}};
        for (int[] r : rules) {
            refused("rule " + r[0] + " to " + r[1], x -> x.rule(r[0], r[1]), Check.BAD);
        }
        int[][] zones = {{-1, 0, 0, 5, 5}, {4, 0, 0, 5, 5}, {1, -1, 0, 5, 5}, {1, 0, -1, 5, 5}, {1, 0, 0, 1001, 5}, {1, 0, 0, 5, 1001},
            {1, 6, 0, 5, 5}, {1, 0, 6, 5, 5}, {0, 6, 0, 5, 5}, {0, 0, 6, 5, 5}};
        for (int[] z : zones) {
            refused("zone " + z[0] + " from " + z[1] + ", " + z[2], x -> x.zone(z[0], z[1], z[2], z[3], z[4]), Check.BAD);
        }
        refused("open -1", x -> x.open(-1), Check.BAD);
        refused("open 4", x -> x.open(4), Check.BAD);
        refused("tick, what -1", x -> x.tick(0, -1), Check.BAD);
        refused("tick, what 8", x -> x.tick(0, 8), Check.BAD);
        refused("tick -1", x -> x.tick(-1, 0), Check.NONE);
        refused("all -1", x -> x.all(-1), Check.BAD);
        refused("all 6", x -> x.all(6), Check.BAD);
        refused("burn of -1", x -> x.burn(-1, 0), Check.BAD);
        refused("burn of 11", x -> x.burn(0, 11), Check.BAD);
    }

    private static void refusedOfCuesAndAsks() {
        Check.says("What is refused, or found, changes nothing but status().");
        refused("feed, no bytes", x -> x.feed(';', 0), Check.BAD);
        refused("feed, nine bytes", x -> x.feed(';', 9), Check.BAD);
        refused("feed, -1 bytes", x -> x.feed(';', -1), Check.BAD);
        refused("frame -1", x -> x.frame(-1, 0), Check.BAD);
        refused("frame 20001", x -> x.frame(20001, 0), Check.BAD);
        refused("frame, what 2", x -> x.frame(0, 2), Check.BAD);
        refused("kind 3", x -> x.kind(3), Check.BAD);
        refused("kind -1", x -> x.kind(-1), Check.BAD);
        refused("as of stroke 3", x -> x.as(3, 0), Check.BAD);
        refused("as kind -1", x -> x.as(0, -1), Check.BAD);
        refused("as kind 4", x -> x.as(0, 4), Check.BAD);
        refused("a LINE as SPOT", x -> x.as(0, 1), Check.KIND);
        refused("a LINE as LOOP", x -> x.as(0, 3), Check.KIND);
        refused("a SPOT as LINE", x -> x.as(1, 2), Check.KIND);
        refused("ask of stroke 3", x -> x.ask(3, 0), Check.BAD);
        refused("ask 2", x -> x.ask(0, 2), Check.BAD);
        refused("ask -1", x -> x.ask(0, -1), Check.BAD);
        refused("trace 5", x -> x.trace(5), Check.NONE);
        refused("count -1", x -> x.count(-1), Check.BAD);
        refused("count 7", x -> x.count(7), Check.BAD);
    }

    private static void refusedWithoutStrokes() {
        Check.says("What is refused, or found, changes nothing but status().");
        Twins.Call aSheet = x -> x.sheet(0, 2, 16) + x.sheet(4, 0, -1);
        Twins.stayAlike("plan without strokes", aSheet, x -> x.plan(0, 0), Check.STATE);
        Twins.stayAlike("plan of missing without strokes", aSheet, x -> x.plan(1, 0), Check.STATE);
        Twins.stayAlike("best without strokes", aSheet, x -> x.best(), Check.STATE);
        Twins.stayAlike("point without strokes", aSheet, x -> x.point(0, 0, 0), Check.BAD);
        Twins.stayAlike("ask without strokes", aSheet, x -> x.ask(0, 0), Check.BAD);
        Twins.stayAlike("as without strokes", aSheet, x -> x.as(0, 0), Check.BAD);
    }

    /** Eight strokes, more than 2000 ticks, 300 bytes; the latest finding is NULL. */
    private static int allFull(LightLines x) {
        x.sheet(0, 2, 40);
        x.set(0, 0, 900);
        x.set(0, 5, 800);
        for (int i = 0; i < 8; i++) {
            x.stroke(0, 0, 4);
        }
        x.set(0, 7, 5);
        x.best();
        x.rule(0, 1);
        Check.tell(x, "at 1 dark; at 2 show 3; at 3 fade 5 6;" + " ".repeat(262));
        return x.drop(6);
    }

    private static void refusedWhereItIsFull() {
        Check.says("What is refused, or found, changes nothing but status().");
        Twins.Call made = EdgesOfTermsTest::allFull;
        Twins.stayAlike("the ninth stroke", made, x -> x.stroke(0, 0, 4), Check.FULL);
        Twins.stayAlike("ticks", made, x -> x.ticks(), Check.FULL);
        Twins.stayAlike("tick", made, x -> x.tick(0, 3), Check.FULL);
        Twins.stayAlike("all", made, x -> x.all(4), Check.FULL);
        Twins.stayAlike("burn", made, x -> x.burn(0, 0), Check.FULL);
        Twins.stayAlike("the 301st byte", made, x -> x.feed('x', 1), Check.FULL);
        Twins.stayAlike("eight bytes more", made, x -> x.feed(0x7878787878787878L, 8), Check.FULL);
    }
}
