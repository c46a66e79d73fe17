/** Edges of promises 1 to 5, and of 27 for calls with sheets: each method is about the words that it quotes. */
public final class EdgesOfSheetsTest {
    private static final int LOW = Integer.MIN_VALUE, HIGH = Integer.MAX_VALUE;

    public static void main(String[] args) {
        sheetsAreMissing();
        nothingAtFirst();
        objectsShareNothing();
        lanesAndItems();
        sheetInPlace();
        sheetBad();
        sheetSize();
        lowestBits();
        whatItIsThen();
        setRefused();
        copyAsTheyWere();
        copyOfNone();
        copyBadNullStore();
        copyPlace();
        drop();
        dropRefused();
        statusOfFindings();
        statusStays();
        Check.end();
    }

    private static void sheetsAreMissing() {
        Check.says("SHEETS 0 .. 7 are missing (at first)");
        LightLines x = new LightLines();
        for (int sheet = 0; sheet < 8; sheet++) {
            Check.due("set of " + sheet, x.set(sheet, 0, 0), Check.NULL);
            Check.due("copy of " + sheet, x.copy(sheet, 0, sheet, 0, 0), Check.NULL);
            Check.due("stroke of " + sheet, x.stroke(sheet, 0, 1), Check.NULL);
            Check.due("drop of " + sheet, x.drop(sheet), Check.NULL);
        }
        Check.due("set of -1", x.set(-1, 0, 0), Check.BAD);
        Check.due("set of 8", x.set(8, 0, 0), Check.BAD);
    }

    private static void nothingAtFirst() {
        Check.says("No SHEETS, STROKES, ZONES, CUES.");
        LightLines x = new LightLines();
        for (int what = 0; what <= 6; what++) {
            Check.due("count(" + what + ")", x.count(what), 0);
        }
        for (int i = 0; i < 8; i++) {
            Check.due("kind of " + i, x.kind(i), Check.BAD);
            Check.due("point of " + i, x.point(i, 0, 0), Check.BAD);
            Check.due("order of " + i, x.order(i, 0), Check.NONE);
        }
        for (int zone = 0; zone < 4; zone++) {
            Check.due("zone " + zone, x.open(zone), 0);
        }
        Check.due("best", x.best(), Check.STATE);
        Check.due("plan", x.plan(0, 0), Check.STATE);
        Check.due("ticks", x.ticks(), 0);
        Check.due("the first tick", x.tick(0, 0), Check.NONE);
        Check.due("all are shown at the first frame", x.frame(0, 0), -1);
        Check.due("all are shown at the last frame", x.frame(20000, 0), -1);
        Check.due("LEVEL at the first frame", x.frame(0, 1), 100);
        Check.due("LEVEL at the last frame", x.frame(20000, 1), 100);
        Check.due("fault", x.fault(), 0);
        Check.due("trace", x.trace(0), Check.NONE);
        Check.due("status", x.status(), 0);
    }

    private static void objectsShareNothing() {
        Check.says("No SHEETS, STROKES, ZONES, CUES.");
        LightLines used = new LightLines();
        Check.draw(used, 3, 4);
        used.zone(0, 0, 0, 9, 9);
        used.rule(0, 7);
        used.ask(0, 0);
        Check.read(used, "at 0 dark;");
        Check.read(used, "?");
        used.drop(5);
        nothingAtFirst();
        LightLines x = new LightLines();
        Check.due("SPEED of another one", x.rule(0, 50), 50);
        Check.due("and of the used one", used.rule(0, 50), 7);
        Check.due("the used one keeps its stroke", used.count(1), 1);
        Check.due("and its finding", used.status(), 1);
    }

    private static void lanesAndItems() {
        Check.says("or have a LANE (0 bytes, 1 shorts, 2 ints) and 0 to 40 ITEMS, 0 at first.");
        LightLines x = new LightLines();
        int[] of70000 = {112, 4464, 70000};
        for (int lane = 0; lane < 3; lane++) {
            Check.due("40 of lane " + lane, x.sheet(lane, lane, 40), 40);
            Check.due("the first", x.set(lane, 0, 70000), of70000[lane]);
            Check.due("the last", x.set(lane, 39, 70000), of70000[lane]);
            Check.due("beyond", x.set(lane, 40, 70000), Check.PLACE);
            Check.due("0 of lane " + lane, x.sheet(lane + 3, lane, 0), 0);
            Check.due("it has no first", x.set(lane + 3, 0, 0), Check.PLACE);
        }
        Check.due("they are there, the empty ones, too", x.count(0), 6);
        x.sheet(7, 1, 40);
        Check.due("the first 16", x.stroke(7, 0, 8), 0);
        Check.due("the last 16", x.stroke(7, 24, 8), 1);
        for (int i = 0; i < 8; i++) {
            Check.due("x at first", x.point(0, i, 0) + x.point(1, i, 0), 0);
            Check.due("y at first", x.point(0, i, 1) + x.point(1, i, 1), 0);
        }
    }

    private static void sheetInPlace() {
        Check.says("A SHEET of a LANE with n ITEMS, in place of what is there: n.");
        LightLines x = new LightLines();
        Check.due("one item", x.sheet(0, 0, 1), 1);
        Check.due("more in place of it", x.sheet(0, 2, 40), 40);
        Check.due("the last of them", x.set(0, 39, 999), 999);
        Check.due("an int", x.set(0, 0, 65536), 65536);
        Check.due("fewer in place of them", x.sheet(0, 1, 2), 2);
        Check.due("the third is gone", x.set(0, 2, 1), Check.PLACE);
        Check.due("none in place of them", x.sheet(0, 1, 0), 0);
        Check.due("the first is gone", x.set(0, 0, 1), Check.PLACE);
        Check.due("still one sheet", x.count(0), 1);
        Check.due("40 again", x.sheet(0, 2, 40), 40);
        Check.due("the last as a point", x.stroke(0, 38, 1), 0);
        Check.due("what was there is gone", x.point(0, 0, 1), 0);
        Check.due("the same size again", x.set(0, 0, 8), 8);
        x.sheet(0, 2, 40);
        x.stroke(0, 0, 1);
        Check.due("is 0 again, too", x.point(1, 0, 0), 0);
        Check.due("a lane that was told ahead", x.set(0, 1, 70000), 70000);
    }

    private static void sheetBad() {
        Check.says("BAD: SHEET, LANE, n above 40; SIZE.");
        LightLines x = new LightLines();
        int[][] bad = {{-1, 0, 1}, {8, 0, 1}, {LOW, 0, 1}, {HIGH, 0, 1}, {0, -1, 1}, {0, 3, 1}, {0, LOW, 1}, {0, HIGH, 1},
            {0, 0, 41}, {0, 0, HIGH}, {7, 2, 41}};
        for (int[] b : bad) {
            Check.due("sheet(" + b[0] + ", " + b[1] + ", " + b[2] + ")", x.sheet(b[0], b[1], b[2]), Check.BAD);
        }
        Check.due("none came", x.count(0), 0);
        Check.due("the least that is not", x.sheet(0, 0, 0), 0);
        Check.due("the most that is not", x.sheet(7, 2, 40), 40);
    }

    private static void sheetSize() {
        Check.says("4 SIZE (fewer than none)");
        LightLines x = new LightLines();
        Check.due("-1", x.sheet(0, 0, -1), Check.SIZE);
        Check.due("-2147483648", x.sheet(0, 2, LOW), Check.SIZE);
        Check.due("it is missing still", x.drop(0), Check.NULL);
        x.sheet(0, 2, 5);
        Check.due("-1 in place of five", x.sheet(0, 0, -1), Check.SIZE);
        Check.due("they are ints still", x.set(0, 4, 70000), 70000);
        Check.due("five still", x.drop(0), 5);
    }

    private static void lowestBits() {
        Check.says("ITEM i becomes v, its lowest bits, as many as the LANE has (read with their sign)");
        LightLines x = new LightLines();
        x.sheet(0, 0, 1);
        x.sheet(1, 1, 1);
        x.sheet(2, 2, 1);
        int[][] bytes = {{127, 127}, {128, -128}, {255, -1}, {256, 0}, {383, 127}, {384, -128}, {-1, -1}, {-128, -128}, {-129, 127},
            {-256, 0}, {LOW, 0}, {HIGH, -1}, {0x12345680, -128}};
        for (int[] b : bytes) {
            Check.due("byte of " + b[0], x.set(0, 0, b[0]), b[1]);
        }
        int[][] shorts = {{255, 255}, {32767, 32767}, {32768, -32768}, {65535, -1}, {65536, 0}, {98303, 32767}, {98304, -32768}, {-1, -1},
            {-32768, -32768}, {-32769, 32767}, {-65536, 0}, {LOW, 0}, {HIGH, -1}, {0x12348000, -32768}};
        for (int[] s : shorts) {
            Check.due("short of " + s[0], x.set(1, 0, s[0]), s[1]);
        }
        for (int v : new int[] {0, -1, 32768, 65536, LOW, HIGH, -1000001, -1000012}) {
            Check.due("int of " + v, x.set(2, 0, v), v);
            Check.due("none is a finding", x.status(), 0);
        }
    }

    private static void whatItIsThen() {
        Check.says("ITEM i becomes v, its lowest bits, as many as the LANE has (read with their sign): what it is then.");
        LightLines x = new LightLines();
        x.sheet(0, 0, 4);
        x.sheet(1, 1, 4);
        Check.due("a byte", x.set(0, 1, 256 + 100), 100);
        Check.due("a short", x.set(1, 2, 65536 + 1000), 1000);
        Check.due("the bytes", x.stroke(0, 0, 2), 0);
        Check.due("the shorts", x.stroke(1, 0, 2), 1);
        int[] items = {0, 100, 0, 0, 0, 0, 1000, 0};
        for (int i = 0; i < items.length; i++) {
            Check.due("item " + i % 4 + " of " + i / 4, x.point(i / 4, i % 4 / 2, i % 2), items[i]);
        }
        x.set(0, 1, 255);
        Check.due("-1 is no place of a point", x.stroke(0, 0, 1), Check.BAD);
        x.set(1, 2, 65535);
        Check.due("nor as a short", x.stroke(1, 2, 1), Check.BAD);
    }

    private static void setRefused() {
        Check.says("BAD: SHEET; NULL; PLACE.");
        LightLines x = new LightLines();
        x.sheet(0, 2, 3);
        x.sheet(1, 2, 0);
        for (int sheet : new int[] {-1, 8, LOW, HIGH}) {
            Check.due("sheet " + sheet, x.set(sheet, 0, 1), Check.BAD);
        }
        Check.due("missing", x.set(2, 0, 1), Check.NULL);
        for (int i : new int[] {-1, 3, 40, LOW, HIGH}) {
            Check.due("place " + i, x.set(0, i, 1), Check.PLACE);
        }
        Check.due("an empty one's first", x.set(1, 0, 1), Check.PLACE);
        Check.due("an empty one's -1", x.set(1, -1, 1), Check.PLACE);
        Check.due("the first place", x.set(0, 0, 1), 1);
        Check.due("the last place", x.set(0, 2, 1), 1);
    }

    /** Items can be read only as a stroke's points. */
    private static void itemsAre(LightLines x, int sheet, int... items) {
        int stroke = x.stroke(sheet, 0, items.length / 2);
        for (int i = 0; i < items.length; i++) {
            Check.due("item " + i + " of sheet " + sheet, x.point(stroke, i / 2, i % 2), items[i]);
        }
    }

    private static void copyAsTheyWere() {
        Check.says("n ITEMS of a from i on come to b from j on, as they were ahead: n.");
        LightLines x = new LightLines();
        Check.fill(x, 0, 1, 2, 3, 4, 5, 6);
        Check.due("all but one, upwards over itself", x.copy(0, 0, 0, 1, 5), 5);
        itemsAre(x, 0, 1, 1, 2, 3, 4, 5);
        Check.fill(x, 0, 1, 2, 3, 4, 5, 6);
        Check.due("all but one, downwards over itself", x.copy(0, 1, 0, 0, 5), 5);
        itemsAre(x, 0, 2, 3, 4, 5, 6, 6);
        Check.due("all onto themselves", x.copy(0, 0, 0, 0, 6), 6);
        itemsAre(x, 0, 2, 3, 4, 5, 6, 6);
        Check.fill(x, 1, 7, 7, 7, 7, 7, 7);
        Check.due("all to another one", x.copy(0, 0, 1, 0, 6), 6);
        itemsAre(x, 1, 2, 3, 4, 5, 6, 6);
        Check.due("the last to the first", x.copy(0, 5, 1, 0, 1), 1);
        Check.due("the first to the last", x.copy(0, 0, 1, 5, 1), 1);
        itemsAre(x, 1, 6, 3, 4, 5, 6, 2);
        Check.due("a is as it was", x.set(0, 0, 9), 9);
        itemsAre(x, 1, 6, 3, 4, 5, 6, 2);
        x.sheet(2, 2, 40);
        x.sheet(3, 2, 40);
        x.set(2, 39, 77);
        Check.due("40 of 40", x.copy(2, 0, 3, 0, 40), 40);
        Check.due("41 of 40", x.copy(2, 0, 3, 0, 41), Check.PLACE);
        Check.due("the 40th", x.stroke(3, 38, 1), 6);
        Check.due("came along", x.point(6, 0, 1), 77);
    }

    private static void copyOfNone() {
        Check.says("PLACE (i, j, n below 0, or beyond an end)");
        LightLines x = new LightLines();
        Check.fill(x, 0, 1, 2, 3);
        Check.fill(x, 1, 4, 5);
        x.sheet(2, 2, 0);
        x.sheet(3, 0, 0);
        Check.due("none at the begin", x.copy(0, 0, 1, 0, 0), 0);
        Check.due("none at both ends", x.copy(0, 3, 1, 2, 0), 0);
        Check.due("none beyond a's end", x.copy(0, 4, 1, 2, 0), Check.PLACE);
        Check.due("none beyond b's end", x.copy(0, 3, 1, 3, 0), Check.PLACE);
        Check.due("none ahead of a", x.copy(0, -1, 1, 0, 0), Check.PLACE);
        Check.due("none ahead of b", x.copy(0, 0, 1, -1, 0), Check.PLACE);
        Check.due("none of an empty one", x.copy(2, 0, 2, 0, 0), 0);
        Check.due("one of an empty one", x.copy(2, 0, 0, 0, 1), Check.PLACE);
        Check.due("one to an empty one", x.copy(0, 0, 2, 0, 1), Check.PLACE);
        Check.due("none of two lanes", x.copy(2, 0, 3, 0, 0), Check.STORE);
    }

    private static void copyBadNullStore() {
        Check.says("BAD: SHEETS; NULL; STORE; PLACE");
        LightLines x = new LightLines();
        for (int lane = 0; lane < 3; lane++) {
            x.sheet(lane, lane, 2);
        }
        for (int sheet : new int[] {-1, 8, LOW, HIGH}) {
            Check.due("a is " + sheet, x.copy(sheet, 0, 0, 0, 1), Check.BAD);
            Check.due("b is " + sheet, x.copy(0, 0, sheet, 0, 1), Check.BAD);
        }
        Check.due("a is missing", x.copy(3, 0, 0, 0, 1), Check.NULL);
        Check.due("b is missing", x.copy(0, 0, 7, 0, 1), Check.NULL);
        for (int a = 0; a < 3; a++) {
            for (int b = 0; b < 3; b++) {
                Check.due("lane " + a + " to lane " + b, x.copy(a, 0, b, 0, 2), a == b ? 2 : Check.STORE);
            }
        }
    }

    private static void copyPlace() {
        Check.says("PLACE (i, j, n below 0, or beyond an end)");
        LightLines x = new LightLines();
        Check.fill(x, 0, 1, 2, 3, 4, 5);
        Check.fill(x, 1, 6, 7, 8);
        int[][] fits = {{0, 0, 3}, {2, 0, 3}, {4, 2, 1}, {4, 0, 1}, {0, 2, 1}};
        for (int[] f : fits) {
            Check.due(f[2] + " from " + f[0] + " to " + f[1], x.copy(0, f[0], 1, f[1], f[2]), f[2]);
        }
        int[][] wrong = {{-1, 0, 1}, {0, -1, 1}, {0, 0, -1}, {LOW, 0, 1}, {0, LOW, 1}, {0, 0, LOW}, {5, 0, 1}, {0, 3, 1}, {0, 0, 4},
            {3, 0, 3}, {0, 1, 3}, {HIGH, 0, 1}, {0, HIGH, 1}, {0, 0, HIGH}, {HIGH, 0, HIGH}, {0, HIGH, HIGH}, {1, 1, HIGH},
            {HIGH, HIGH, 2}, {LOW, LOW, LOW}, {HIGH, 0, 0}, {5, 0, -1}, {LOW, 0, HIGH}};
        for (int[] w : wrong) {
            Check.due(w[2] + " from " + w[0] + " to " + w[1], x.copy(0, w[0], 1, w[1], w[2]), Check.PLACE);
        }
    }

    private static void drop() {
        Check.says("A SHEET is missing from now on: how many ITEMS it had.");
        LightLines x = new LightLines();
        x.sheet(0, 0, 0);
        x.sheet(7, 2, 40);
        x.sheet(3, 1, 1);
        Check.due("none", x.drop(0), 0);
        Check.due("40", x.drop(7), 40);
        Check.due("the third stays", x.count(0), 1);
        for (int sheet : new int[] {0, 7}) {
            Check.due("set", x.set(sheet, 0, 0), Check.NULL);
            Check.due("copy of it", x.copy(sheet, 0, 3, 0, 0), Check.NULL);
            Check.due("copy to it", x.copy(3, 0, sheet, 0, 0), Check.NULL);
            Check.due("stroke", x.stroke(sheet, 0, 1), Check.NULL);
            Check.due("drop again", x.drop(sheet), Check.NULL);
        }
        Check.draw(x, 5, 6);
        x.drop(7);
        Check.due("plan", x.plan(7, 0), Check.NULL);
        Check.due("the stroke stays", x.point(0, 0, 1), 6);
        Check.due("a new one in its place", x.sheet(7, 0, 2), 2);
        Check.due("without what it had", x.stroke(7, 0, 1) + x.point(1, 0, 1), 1);
    }

    private static void dropRefused() {
        Check.says("how many ITEMS it had. BAD; NULL.");
        LightLines x = new LightLines();
        for (int sheet : new int[] {-1, 8, LOW, HIGH}) {
            Check.due("drop of " + sheet, x.drop(sheet), Check.BAD);
        }
        for (int sheet = 0; sheet < 8; sheet++) {
            Check.due("drop of " + sheet, x.drop(sheet), Check.NULL);
        }
    }

    private static void statusOfFindings() {
        Check.says("Of the latest call with a SHEET, or as(), that was not BAD, STATE, FULL: the number of its FINDING");
        LightLines x = new LightLines();
        Check.draw(x, 1, 1);
        x.sheet(0, 0, 2);
        x.sheet(1, 1, 2);
        Twins.Call[] calls = {y -> y.sheet(2, 0, -1), y -> y.set(2, 0, 0), y -> y.set(0, 2, 0), y -> y.copy(0, 0, 2, 0, 1),
            y -> y.copy(0, 0, 1, 0, 1), y -> y.copy(0, 0, 0, 0, 3), y -> y.drop(2), y -> y.stroke(2, 0, 1), y -> y.stroke(0, 1, 1),
            y -> y.plan(2, 0), y -> y.plan(0, 1), y -> y.as(0, 2)};
        int[] findings = {4, 1, 2, 1, 5, 2, 1, 1, 2, 1, 2, 3};
        for (int i = 0; i < calls.length; i++) {
            Check.due("call " + i, calls[i].on(x), -1000010 - findings[i]);
            Check.due("status of call " + i, x.status(), findings[i]);
            Check.due("asked twice", x.status(), findings[i]);
            x.set(0, 0, 0);
            Check.due("a call without one", x.status(), 0);
        }
    }

    private static void statusStays() {
        Check.says("0: it had none, or there was none.");
        LightLines x = new LightLines();
        Check.due("there was none", x.status(), 0);
        Check.due("only a BAD one", x.set(8, 0, 0), Check.BAD);
        Check.due("is none", x.status(), 0);
        Check.due("only a STATE one", x.plan(0, 0), Check.STATE);
        Check.due("is none, too", x.status(), 0);
        Check.fill(x, 0, 0, 0);
        Twins.Call[] without = {y -> y.sheet(1, 0, 0), y -> y.set(0, 0, 0), y -> y.copy(0, 0, 0, 0, 0), y -> y.drop(1),
            y -> y.stroke(0, 0, 1), y -> y.plan(0, 0), y -> y.as(0, 0), y -> y.as(0, 1)};
        for (int i = 0; i < without.length; i++) {
            x.drop(5);
            Check.due("a finding ahead of " + i, x.status(), 1);
            without[i].on(x);
            Check.due("none of call " + i, x.status(), 0);
        }
        x.drop(5);
        x.point(0, 0, 0);
        x.best();
        x.order(0, 0);
        x.rule(0, 50);
        x.zone(0, 0, 0, 1, 1);
        x.open(0);
        x.tick(0, x.ticks());
        x.all(0);
        x.burn(0, 0);
        x.feed(32, 1);
        x.cues();
        x.fault();
        x.frame(0, 0);
        x.kind(0);
        x.ask(0, 0);
        x.trace(0);
        x.count(0);
        Check.due("calls without a sheet leave it", x.status(), 1);
    }
}
