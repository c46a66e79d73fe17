/** Edges of promises 6 to 10: each method is about the words that it quotes. */
public final class EdgesOfStrokesTest {
    private static final int LOW = Integer.MIN_VALUE, HIGH = Integer.MAX_VALUE;

    public static void main(String[] args) {
        eightAtMost();
        oneToEightPoints();
        placesOfPoints();
        itemsFromIOn();
        strokeRefused();
        pointRefused();
        way();
        darkWay();
        leastAndGreatestDarkWay();
        bestOfSeveral();
        bestOfMany();
        bestOfBothAxes();
        bestRefused();
        planIsOfAll();
        planFromIOn();
        planRefused();
        planToldLast();
        order();
        Check.end();
    }

    private static void eightAtMost() {
        Check.says("STROKES 0 .. 7 (8 at most)");
        LightLines x = new LightLines();
        Check.fill(x, 0, 9, 8);
        for (int i = 0; i < 8; i++) {
            Check.due("its number", x.stroke(0, 0, 1), i);
            Check.due("it is there", x.point(i, 0, 0), 9);
            Check.due("the next one is not", x.point(i + 1, 0, 0), Check.BAD);
        }
        Check.due("the ninth", x.stroke(0, 0, 1), Check.FULL);
        Check.due("again", x.stroke(0, 0, 1), Check.FULL);
        Check.due("eight", x.count(1), 8);
        Check.due("the first one is as it was", x.point(0, 0, 1), 8);
        Check.due("the last one, too", x.point(7, 0, 1), 8);
    }

    private static void oneToEightPoints() {
        Check.says("A STROKE of n POINTS (1 to 8)");
        LightLines x = new LightLines();
        x.sheet(0, 2, 16);
        for (int i = 0; i < 16; i++) {
            x.set(0, i, 10 * i);
        }
        for (int n : new int[] {0, -1, 9, LOW, HIGH}) {
            Check.due(n + " points", x.stroke(0, 0, n), Check.BAD);
        }
        Check.due("one point", x.stroke(0, 0, 1), 0);
        Check.due("it has no second", x.point(0, 1, 0), Check.BAD);
        Check.due("eight points", x.stroke(0, 0, 8), 1);
        for (int i = 0; i < 16; i++) {
            Check.due("of point " + i / 2, x.point(1, i / 2, i % 2), 10 * i);
        }
        Check.due("it has no ninth", x.point(1, 8, 0), Check.BAD);
        Check.due("nine in all", x.count(2), 9);
    }

    private static void placesOfPoints() {
        Check.says("x and y 0 to 1000 each");
        for (int at = 0; at < 16; at++) {
            LightLines x = new LightLines();
            x.sheet(0, 2, 16);
            for (int v : new int[] {-1, 1001, LOW, HIGH}) {
                x.set(0, at, v);
                Check.due(v + " at " + at, x.stroke(0, 0, 8), Check.BAD);
            }
            x.set(0, at, 1000);
            Check.due("1000 at " + at, x.stroke(0, 0, 8), 0);
            Check.due("is taken", x.point(0, at / 2, at % 2), 1000);
            x.set(0, at, 0);
            Check.due("0 at " + at, x.stroke(0, 0, 8), 1);
            Check.due("is taken, too", x.point(1, at / 2, at % 2), 0);
        }
    }

    private static void itemsFromIOn() {
        Check.says("ITEMS of a SHEET from i on: x, y, x, and so on: its number.");
        LightLines x = new LightLines();
        Check.fill(x, 0, -1, 1, 2, 3, 4, 1001);
        Check.due("what stands around does not count", x.stroke(0, 1, 2), 0);
        int[] items = {1, 2, 3, 4};
        for (int i = 0; i < 4; i++) {
            Check.due("item " + (i + 1), x.point(0, i / 2, i % 2), items[i]);
        }
        Check.due("x is not as told", x.stroke(0, 0, 1), Check.BAD);
        Check.due("y is not as told", x.stroke(0, 4, 1), Check.BAD);
        x.sheet(1, 0, 40);
        x.set(1, 39, 127);
        Check.due("the last 16 of 40 bytes", x.stroke(1, 24, 8), 1);
        Check.due("the very last", x.point(1, 7, 1), 127);
        x.set(0, 1, 999);
        x.drop(0);
        Check.due("what becomes of the sheet is no matter", x.point(0, 0, 0), 1);
    }

    private static void strokeRefused() {
        Check.says("BAD: SHEET, n; FULL: 8; NULL; PLACE; then BAD: x, y.");
        LightLines x = new LightLines();
        x.sheet(0, 1, 16);
        x.sheet(1, 1, 1);
        x.sheet(2, 1, 0);
        for (int sheet : new int[] {-1, 8, LOW, HIGH}) {
            Check.due("sheet " + sheet, x.stroke(sheet, 0, 1), Check.BAD);
        }
        Check.due("missing", x.stroke(3, 0, 1), Check.NULL);
        int[][] wrong = {{0, -1, 1}, {0, -2, 8}, {0, 1, 8}, {0, 15, 1}, {0, 16, 1}, {0, 17, 1}, {0, LOW, 1}, {0, LOW, 8}, {0, HIGH, 1},
            {0, HIGH - 1, 1}, {0, HIGH, 8}, {1, 0, 1}, {2, 0, 1}};
        for (int[] w : wrong) {
            Check.due(w[2] + " points from " + w[1] + " of sheet " + w[0], x.stroke(w[0], w[1], w[2]), Check.PLACE);
        }
        Check.due("none came", x.count(1), 0);
        Check.due("the last place", x.stroke(0, 14, 1), 0);
        Check.due("all of it", x.stroke(0, 0, 8), 1);
    }

    private static void pointRefused() {
        Check.says("x (what = 0), y (1) of POINT i of a STROKE. BAD.");
        LightLines x = new LightLines();
        Check.due("no stroke yet", x.point(0, 0, 0), Check.BAD);
        Check.draw(x, 0, 1000, 1000, 0);
        Check.draw(x, 6, 7);
        int[][] bad = {{-1, 0, 0}, {2, 0, 0}, {7, 0, 0}, {8, 0, 0}, {LOW, 0, 0}, {HIGH, 0, 0}, {0, -1, 0}, {0, 2, 0}, {1, 1, 0}, {0, 8, 0},
            {0, LOW, 0}, {0, HIGH, 0}, {0, 0, -1}, {0, 0, 2}, {0, 0, LOW}, {0, 0, HIGH}};
        for (int[] b : bad) {
            Check.due("point(" + b[0] + ", " + b[1] + ", " + b[2] + ")", x.point(b[0], b[1], b[2]), Check.BAD);
        }
        Check.due("x of the first", x.point(0, 0, 0), 0);
        Check.due("y of the first", x.point(0, 0, 1), 1000);
        Check.due("x of the last", x.point(0, 1, 0), 1000);
        Check.due("y of the last", x.point(0, 1, 1), 0);
        Check.due("y of the last stroke", x.point(1, 0, 1), 7);
    }

    /** DARK WAY of a stroke from x0, y0 to 0, 0 is the WAY to x0, y0 alone. */
    private static int wayTo(int x0, int y0) {
        LightLines x = new LightLines();
        Check.draw(x, x0, y0, 0, 0);
        Check.fill(x, 0, 0, 0);
        return x.plan(0, 0);
    }

    private static void way() {
        Check.says("WAY of two POINTS: the greater of how far x and y go, without sign.");
        Check.due("none", wayTo(0, 0), 0);
        Check.due("x alone", wayTo(1, 0), 1);
        Check.due("y alone", wayTo(0, 1), 1);
        Check.due("the same", wayTo(1000, 1000), 1000);
        Check.due("x is greater", wayTo(1000, 999), 1000);
        Check.due("y is greater", wayTo(999, 1000), 1000);
        LightLines x = new LightLines();
        Check.draw(x, 30, 40);
        Check.draw(x, 10, 45);
        Check.draw(x, 15, 5);
        // SIZE of lines has the WAY of two points: x goes 20 down, then y 40 down.
        Check.draw(x, 30, 40, 10, 45);
        Check.draw(x, 10, 45, 15, 5);
        Check.due("x goes down", x.ask(3, 0), 2 + 20);
        Check.due("y goes down", x.ask(4, 0), 2 + 40);
    }

    private static void darkWay() {
        Check.says("its DARK WAY: from 0, 0 to the first one's first POINT (as it is gone), from its last one to the next one's first, "
            + "and so on, and from the last one back to 0, 0.");
        LightLines x = new LightLines();
        Check.draw(x, 10, 0, 300, 200, 20, 70);
        Check.fill(x, 0, 0, 0);
        Check.due("one, forward: 10 and 70", x.plan(0, 0), 80);
        Check.fill(x, 0, 0, 1);
        Check.due("one, back: 70 and 10", x.plan(0, 0), 80);
        Check.draw(x, 100, 5);
        Check.fill(x, 0, 0, 0, 1, 0);
        // 10; from 20, 70 to 100, 5: 80; 100.
        Check.due("forward, then a spot", x.plan(0, 0), 190);
        Check.fill(x, 0, 0, 1, 1, 1);
        // 70; from 10, 0 to 100, 5: 90; 100.
        Check.due("back, then a spot", x.plan(0, 0), 260);
        Check.fill(x, 0, 1, 0, 0, 0);
        // 100; from 100, 5 to 10, 0: 90; 70.
        Check.due("a spot, then forward", x.plan(0, 0), 260);
        Check.fill(x, 0, 1, 1, 0, 1);
        // 100; from 100, 5 to 20, 70: 80; 10.
        Check.due("a spot, then back", x.plan(0, 0), 190);
    }

    private static void leastAndGreatestDarkWay() {
        Check.says("A PLAN: an order of all STROKES, each forward (0) or back (1)");
        LightLines none = new LightLines();
        for (int i = 0; i < 8; i++) {
            Check.draw(none, 0, 0, 1000, 1000, 0, 0);
        }
        Check.fill(none, 0, 7, 1, 6, 0, 5, 1, 4, 0, 3, 1, 2, 0, 1, 1, 0, 0);
        Check.due("no dark way", none.plan(0, 0), 0);
        LightLines most = new LightLines();
        for (int i = 0; i < 8; i++) {
            Check.draw(most, i % 2 * 1000, 1000 - i % 2 * 1000);
        }
        Check.fill(most, 0, 0, 0, 1, 0, 2, 0, 3, 0, 4, 0, 5, 0, 6, 0, 7, 0);
        Check.due("1000 nine times", most.plan(0, 0), 9000);
        Check.due("the least of these", most.best(), 3000);
        int[] order = {0, 2, 4, 6, 1, 3, 5, 7};
        for (int i = 0; i < 8; i++) {
            Check.due("order " + i, most.order(i, 0), order[i]);
            Check.due("direction " + i, most.order(i, 1), 0);
        }
    }

    private static void planIs(LightLines x, int... turns) {
        for (int i = 0; i < turns.length; i++) {
            Check.due("order(" + i / 2 + ", " + i % 2 + ")", x.order(i / 2, i % 2), turns[i]);
        }
    }

    private static void bestOfSeveral() {
        Check.says("of several the least STROKE first (forward ahead of back), then likewise from there on.");
        LightLines one = new LightLines();
        Check.draw(one, 500, 0, 10, 0);
        Check.due("as far both ways", one.best(), 510);
        planIs(one, 0, 0);
        LightLines same = new LightLines();
        Check.draw(same, 0, 0, 100, 0);
        Check.draw(same, 0, 0, 100, 0);
        Check.due("there and back", same.best(), 0);
        planIs(same, 0, 0, 1, 1);
        LightLines back = new LightLines();
        Check.draw(back, 100, 0, 0, 0);
        Check.draw(back, 0, 0, 100, 0);
        // 1 forward, 0 forward has none either: but 0 is less, though it is gone back.
        Check.due("the least one goes ahead of forward", back.best(), 0);
        planIs(back, 0, 1, 1, 1);
        LightLines later = new LightLines();
        Check.draw(later, 0, 0, 100, 0);
        Check.draw(later, 100, 0, 100, 50, 100, 0);
        Check.draw(later, 100, 0);
        Check.draw(later, 100, 0, 0, 0);
        // 0 forward, 3 forward at the end; 1 and 2 between, or 2 and 1.
        Check.due("likewise from there on", later.best(), 0);
        planIs(later, 0, 0, 1, 0, 2, 0, 3, 0);
        LightLines greater = new LightLines();
        Check.draw(greater, 200, 0);
        Check.draw(greater, 100, 0, 200, 0);
        Check.draw(greater, 0, 0, 100, 0);
        // Only 2, 1, 0 and 0, 1, 2 have 200; 0 is the least.
        Check.due("the other way round", greater.best(), 200);
        planIs(greater, 0, 0, 1, 1, 2, 1);
    }

    private static void bestOfMany() {
        Check.says("BEST: a PLAN of the least DARK WAY");
        LightLines spots = new LightLines();
        for (int i = 0; i < 8; i++) {
            Check.draw(spots, 1000, 1000);
        }
        Check.due("eight in one place", spots.best(), 2000);
        planIs(spots, 0, 0, 1, 0, 2, 0, 3, 0, 4, 0, 5, 0, 6, 0, 7, 0);
        LightLines chain = new LightLines();
        for (int i = 0; i < 8; i++) {
            Check.draw(chain, 1000 - 100 * i, 0, 900 - 100 * i, 0);
        }
        // 0 forward leads down to 200, 0: 1000 and 200. All others begin at 200 or more, too.
        Check.due("eight in a chain", chain.best(), 1200);
        planIs(chain, 0, 0, 1, 0, 2, 0, 3, 0, 4, 0, 5, 0, 6, 0, 7, 0);
        LightLines up = new LightLines();
        for (int i = 0; i < 8; i++) {
            Check.draw(up, 100 * i + 100, 0, 100 * i, 0);
        }
        // Upwards from 0, 0 on each is gone back, and from 800, 0 it is 800. The last one may be gone forward as well: 100
        // and 700. Downwards from 7 on it is as much, but 0 is less than 7.
        Check.due("eight up", up.best(), 800);
        planIs(up, 0, 1, 1, 1, 2, 1, 3, 1, 4, 1, 5, 1, 6, 1, 7, 0);
    }

    /** The same drawing with x and y in each other's place has the same plan. */
    private static void bestOfBothAxes() {
        Check.says("BEST: a PLAN of the least DARK WAY");
        for (int axis = 0; axis < 2; axis++) {
            LightLines x = new LightLines();
            int[][] ends = {{900, 300}, {600, 1000}, {0, 500}};
            for (int[] e : ends) {
                Check.draw(x, axis == 0 ? e[0] : 7, axis == 0 ? 7 : e[0], axis == 0 ? e[1] : 7, axis == 0 ? 7 : e[1]);
            }
            // All back: 300, from 900 to 1000, from 600 to 500, and 7. All forward from 2 on it is as much, but 0 is less.
            Check.due("dark way, axis " + axis, x.best(), 507);
            planIs(x, 0, 1, 1, 1, 2, 1);
        }
    }

    private static void bestRefused() {
        Check.says("The PLAN is BEST: its DARK WAY. STATE: no STROKES.");
        LightLines x = new LightLines();
        Check.due("no strokes", x.best(), Check.STATE);
        x.sheet(0, 2, 2);
        x.set(0, 0, 1001);
        Check.due("a stroke that is refused", x.stroke(0, 0, 1), Check.BAD);
        Check.due("is none", x.best(), Check.STATE);
        x.set(0, 0, 1000);
        x.stroke(0, 0, 1);
        Check.due("one", x.best(), 2000);
        Check.due("again", x.best(), 2000);
        x.stroke(0, 0, 1);
        Check.due("one more", x.best(), 2000);
        planIs(x, 0, 0, 1, 0);
    }

    private static void planIsOfAll() {
        Check.says("ITEMS of a SHEET from i on: STROKE, direction, STROKE, and so on, of all: its DARK WAY.");
        LightLines x = new LightLines();
        Check.draw(x, 10, 0);
        Check.draw(x, 20, 0);
        Check.draw(x, 30, 0);
        int[][] none = {{0, 0, 0, 0, 1, 0}, {0, 0, 1, 0, 1, 1}, {2, 0, 1, 0, 2, 0}, {0, 0, 1, 0, 3, 0}, {-1, 0, 1, 0, 2, 0},
            {0, 2, 1, 0, 2, 0}, {0, -1, 1, 0, 2, 0}, {0, 0, 1, 0, 2, 2}, {0, 0, 1, 0, 2, -1}, {32, 0, 1, 0, 2, 0}, {0, 0, 33, 0, 2, 0},
            {0, 256, 1, 0, 2, 0}, {LOW, 0, 1, 0, 2, 0}, {HIGH, 0, 1, 0, 2, 0}, {0, LOW, 1, 0, 2, 0}, {0, HIGH, 1, 0, 2, 0}};
        for (int[] items : none) {
            Check.fill(x, 0, items);
            Check.due("it is none: " + java.util.Arrays.toString(items), x.plan(0, 0), Check.BAD);
            planIs(x, 0, 0, 1, 0, 2, 0);
        }
        Check.fill(x, 0, 2, 1, 0, 1, 1, 0);
        // 30, 20, 10, 20.
        Check.due("it is one", x.plan(0, 0), 80);
        planIs(x, 2, 1, 0, 1, 1, 0);
    }

    private static void planFromIOn() {
        Check.says("ITEMS of a SHEET from i on: STROKE, direction, STROKE, and so on, of all");
        LightLines x = new LightLines();
        Check.draw(x, 10, 0);
        Check.draw(x, 20, 0);
        Check.fill(x, 0, 5, 1, 1, 0, 0, 9);
        Check.due("what stands around does not count", x.plan(0, 1), 40);
        planIs(x, 1, 1, 0, 0);
        for (int lane = 0; lane < 3; lane++) {
            x.sheet(1, lane, 40);
            x.set(1, 36, lane % 2);
            x.set(1, 38, 1 - lane % 2);
            Check.due("the last four of 40 of lane " + lane, x.plan(1, 36), 40);
            planIs(x, lane % 2, 0, 1 - lane % 2, 0);
            Check.due("one beyond", x.plan(1, 37), Check.PLACE);
        }
        for (int i = 2; i < 8; i++) {
            Check.draw(x, 0, 0);
        }
        x.sheet(1, 0, 16);
        for (int i = 0; i < 8; i++) {
            x.set(1, 2 * i, 7 - i);
            x.set(1, 2 * i + 1, 1);
        }
        Check.due("all eight", x.plan(1, 0), 40);
        planIs(x, 7, 1, 6, 1, 5, 1, 4, 1, 3, 1, 2, 1, 1, 1, 0, 1);
        x.sheet(2, 0, 15);
        Check.due("an item too few", x.plan(2, 0), Check.PLACE);
    }

    private static void planRefused() {
        Check.says("BAD: SHEET; STATE: no STROKES; NULL; PLACE; then BAD: it is none.");
        LightLines x = new LightLines();
        for (int sheet : new int[] {-1, 8, LOW, HIGH}) {
            Check.due("sheet " + sheet, x.plan(sheet, 0), Check.BAD);
        }
        Check.due("no strokes", x.plan(0, 0), Check.STATE);
        Check.draw(x, 1, 2);
        Check.due("missing", x.plan(0, 0), Check.NULL);
        Check.fill(x, 0, 0, 1, 5);
        x.sheet(1, 2, 0);
        x.sheet(2, 2, 1);
        for (int i : new int[] {-1, -2, 2, 3, 4, LOW, HIGH, HIGH - 1}) {
            Check.due("place " + i, x.plan(0, i), Check.PLACE);
        }
        Check.due("an empty one", x.plan(1, 0), Check.PLACE);
        Check.due("half a turn", x.plan(2, 0), Check.PLACE);
        Check.due("it is none", x.plan(0, 1), Check.BAD);
        Check.due("it is one", x.plan(0, 0), 4);
        planIs(x, 0, 1);
    }

    private static void planToldLast() {
        Check.says("by the PLAN told last (at first, and behind each STROKE more: as they came, forward)");
        LightLines x = new LightLines();
        Check.draw(x, 50, 0, 60, 0);
        planIs(x, 0, 0);
        Check.fill(x, 0, 0, 1);
        x.plan(0, 0);
        planIs(x, 0, 1);
        x.set(0, 1, 0);
        planIs(x, 0, 1);
        x.stroke(8, 0, 1);
        x.stroke(5, 0, 1);
        x.stroke(0, 1, 1);
        planIs(x, 0, 1);
        Check.draw(x, 40, 0);
        planIs(x, 0, 0, 1, 0);
        Check.due("the third is none", x.order(2, 0), Check.NONE);
        Check.fill(x, 0, 1, 1, 0, 1);
        x.plan(0, 0);
        planIs(x, 1, 1, 0, 1);
        x.best();
        planIs(x, 0, 0, 1, 0);
        x.plan(0, 0);
        planIs(x, 1, 1, 0, 1);
    }

    private static void order() {
        Check.says("Of the PLAN: the i-th STROKE (what = 0), its direction (1). BAD: what; NONE: there are not so many (i below 0, too).");
        LightLines x = new LightLines();
        for (int i : new int[] {0, -1, 7, 8, LOW, HIGH}) {
            Check.due("none yet: " + i, x.order(i, 0), Check.NONE);
        }
        for (int i = 0; i < 8; i++) {
            Check.due("not so many: " + i, x.order(i, 1), Check.NONE);
            Check.draw(x, i, 0);
            Check.due("so many: " + i, x.order(i, 0), i);
        }
        for (int i : new int[] {-1, 8, LOW, HIGH}) {
            Check.due("STROKE " + i, x.order(i, 0), Check.NONE);
            Check.due("direction " + i, x.order(i, 1), Check.NONE);
        }
        for (int what : new int[] {-1, 2, LOW, HIGH}) {
            Check.due("what " + what, x.order(0, what), Check.BAD);
            Check.due("what " + what + " of none", x.order(-1, what), Check.BAD);
        }
    }
}
