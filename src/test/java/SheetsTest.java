/** Promises 1 to 5, and 27 as far as sheets go. */
public final class SheetsTest {
    public static void main(String[] args) {
        newObject();
        sheet();
        set();
        copy();
        drop();
        status();
        Check.end();
    }

    private static void newObject() {
        LightLines x = new LightLines();
        for (int what = 0; what <= 6; what++) {
            Check.due("new count(" + what + ")", x.count(what), 0);
        }
        for (int sheet = 0; sheet < 8; sheet++) {
            Check.due("new drop", x.drop(sheet), Check.NULL);
        }
        for (int zone = 0; zone < 4; zone++) {
            Check.due("new open", x.open(zone), 0);
        }
        Check.due("new kind", x.kind(0), Check.BAD);
        Check.due("new order", x.order(0, 0), Check.NONE);
        Check.due("new ticks", x.ticks(), 0);
        Check.due("new fault", x.fault(), 0);
        Check.due("new frame shown", x.frame(0, 0), -1);
        Check.due("new frame level", x.frame(20000, 1), 100);
        Check.due("new trace", x.trace(0), Check.NONE);
        Check.due("new status", new LightLines().status(), 0);
        int[] first = {50, 1, 8, 10, 0, 40};
        int[] least = {1, 0, 1, 0, 0, 1};
        for (int what = 0; what < 6; what++) {
            Check.due("first rule " + what, x.rule(what, least[what]), first[what]);
        }
    }

    private static void sheet() {
        LightLines x = new LightLines();
        Check.due("sheet number -1", x.sheet(-1, 0, 1), Check.BAD);
        Check.due("sheet number 8", x.sheet(8, 0, 1), Check.BAD);
        Check.due("lane -1", x.sheet(0, -1, 1), Check.BAD);
        Check.due("lane 3", x.sheet(0, 3, 1), Check.BAD);
        Check.due("41 items", x.sheet(0, 0, 41), Check.BAD);
        Check.due("most items", x.sheet(0, 0, Integer.MAX_VALUE), Check.BAD);
        Check.due("-1 items", x.sheet(0, 0, -1), Check.SIZE);
        Check.due("fewest items", x.sheet(0, 0, Integer.MIN_VALUE), Check.SIZE);
        Check.due("BAD goes ahead of SIZE", x.sheet(0, 3, -1), Check.BAD);
        Check.due("BAD sheet goes ahead of SIZE", x.sheet(8, 0, -1), Check.BAD);
        Check.due("none came", x.count(0), 0);
        Check.due("empty sheet", x.sheet(7, 2, 0), 0);
        Check.due("it is there", x.count(0), 1);
        Check.due("it has no place", x.set(7, 0, 1), Check.PLACE);
        Check.due("40 items", x.sheet(0, 1, 40), 40);
        Check.due("the last one", x.set(0, 39, 7), 7);
        Check.due("beyond", x.set(0, 40, 7), Check.PLACE);
        Check.due("SIZE leaves what is there", x.sheet(0, 0, -5), Check.SIZE);
        Check.due("still 40 shorts", x.set(0, 39, 300), 300);
        itemsAreZeroAgain();
    }

    private static void itemsAreZeroAgain() {
        LightLines x = new LightLines();
        Check.fill(x, 0, 900, 900);
        Check.due("in place of what is there", x.sheet(0, 2, 2), 2);
        Check.due("count stays", x.count(0), 1);
        Check.due("a spot of zeros", x.stroke(0, 0, 1), 0);
        Check.due("x is 0", x.point(0, 0, 0), 0);
        Check.due("y is 0", x.point(0, 0, 1), 0);
        Check.fill(x, 1, 5, 6);
        x.drop(1);
        x.sheet(1, 2, 2);
        x.stroke(1, 0, 1);
        Check.due("zero behind a drop, too", x.point(1, 0, 0), 0);
    }

    private static void set() {
        LightLines x = new LightLines();
        Check.due("set sheet -1", x.set(-1, 0, 0), Check.BAD);
        Check.due("set sheet 8", x.set(8, 0, 0), Check.BAD);
        Check.due("set missing", x.set(3, 0, 0), Check.NULL);
        Check.due("NULL goes ahead of PLACE", x.set(3, -1, 0), Check.NULL);
        x.sheet(0, 0, 2);
        x.sheet(1, 1, 2);
        x.sheet(2, 2, 2);
        Check.due("place -1", x.set(0, -1, 0), Check.PLACE);
        Check.due("place 2", x.set(0, 2, 0), Check.PLACE);
        Check.due("least place", x.set(0, Integer.MIN_VALUE, 0), Check.PLACE);
        Check.due("most place", x.set(0, Integer.MAX_VALUE, 0), Check.PLACE);
        int[] values = {0, 127, 128, -128, -129, 255, 256, 32767, 32768, -32768, -32769, 65535, 65536, 1 << 31, ~(1 << 31)};
        for (int v : values) {
            Check.due("byte " + v, x.set(0, 1, v), (byte) v);
            Check.due("short " + v, x.set(1, 1, v), (short) v);
            Check.due("int " + v, x.set(2, 1, v), v);
        }
    }

    private static void copy() {
        LightLines x = new LightLines();
        Check.due("copy from -1", x.copy(-1, 0, 0, 0, 0), Check.BAD);
        Check.due("copy to 8", x.copy(0, 0, 8, 0, 0), Check.BAD);
        Check.due("both missing", x.copy(0, -1, 0, 0, 0), Check.NULL);
        Check.fill(x, 0, 10, 20, 30, 40, 50, 60);
        Check.due("to missing", x.copy(0, 0, 1, 0, 1), Check.NULL);
        Check.due("from missing", x.copy(1, 0, 0, 0, 1), Check.NULL);
        x.sheet(1, 1, 6);
        Check.due("two lanes", x.copy(0, 0, 1, 0, 1), Check.STORE);
        Check.due("two lanes, none copied", x.copy(0, 0, 1, 0, 0), Check.STORE);
        Check.due("STORE goes ahead of PLACE", x.copy(0, -1, 1, 0, -1), Check.STORE);
        x.sheet(2, 2, 4);
        int most = Integer.MAX_VALUE;
        int[][] wrong = {{-1, 0, 1}, {0, -1, 1}, {0, 0, -1}, {0, 0, 5}, {1, 0, 6}, {6, 0, 1}, {7, 0, 0}, {0, 5, 0}, {0, 4, 1},
            {most, 0, 1}, {0, most, 1}, {0, 0, most}, {most, most, most}, {1, 1, most}, {Integer.MIN_VALUE, 0, 1}};
        for (int[] w : wrong) {
            Check.due("copy from " + w[0] + " to " + w[1] + " of " + w[2], x.copy(0, w[0], 2, w[1], w[2]), Check.PLACE);
        }
        Check.due("none at both ends", x.copy(0, 6, 2, 4, 0), 0);
        Check.due("two of them", x.copy(0, 1, 2, 2, 2), 2);
        itemsAre(x, 2, 0, 0, 20, 30);
        Check.due("onto itself, forward", x.copy(0, 0, 0, 2, 4), 4);
        itemsAre(x, 0, 10, 20, 10, 20, 30, 40);
        Check.due("onto itself, back", x.copy(0, 1, 0, 0, 5), 5);
        itemsAre(x, 0, 20, 10, 20, 30, 40, 40);
        negativeItems();
    }

    private static void negativeItems() {
        LightLines x = new LightLines();
        x.sheet(0, 0, 2);
        x.sheet(1, 0, 2);
        x.set(0, 0, -1);
        Check.due("bytes", x.copy(0, 0, 1, 0, 2), 2);
        Check.due("-1 came along", x.stroke(1, 0, 1), Check.BAD);
    }

    /** Items can be read only as a stroke's points. */
    private static void itemsAre(LightLines x, int sheet, int... items) {
        int stroke = x.stroke(sheet, 0, items.length / 2);
        for (int i = 0; i < items.length; i++) {
            Check.due("item " + i + " of sheet " + sheet, x.point(stroke, i / 2, i % 2), items[i]);
        }
    }

    private static void drop() {
        LightLines x = new LightLines();
        Check.due("drop -1", x.drop(-1), Check.BAD);
        Check.due("drop 8", x.drop(8), Check.BAD);
        Check.due("drop missing", x.drop(0), Check.NULL);
        x.sheet(0, 1, 17);
        x.sheet(1, 1, 0);
        Check.due("two", x.count(0), 2);
        Check.due("drop 17", x.drop(0), 17);
        Check.due("drop 0", x.drop(1), 0);
        Check.due("none", x.count(0), 0);
        Check.due("dropped", x.drop(0), Check.NULL);
        Check.due("set of dropped", x.set(0, 0, 0), Check.NULL);
    }

    private static void status() {
        LightLines x = new LightLines();
        x.drop(0);
        Check.due("drop NULL", x.status(), 1);
        x.sheet(8, 0, 0);
        x.sheet(0, 3, 0);
        x.sheet(0, 0, 41);
        x.set(8, 0, 0);
        x.copy(8, 0, 0, 0, 0);
        x.drop(8);
        x.stroke(8, 0, 1);
        x.stroke(0, 0, 0);
        x.plan(8, 0);
        x.plan(0, 0);
        x.as(0, 0);
        x.best();
        Check.due("BAD and STATE leave it", x.status(), 1);
        x.sheet(0, 0, -1);
        Check.due("SIZE", x.status(), 4);
        x.sheet(0, 0, 2);
        Check.due("sheet without", x.status(), 0);
        x.set(0, 2, 0);
        Check.due("set PLACE", x.status(), 2);
        x.set(0, 0, 0);
        Check.due("set without", x.status(), 0);
        x.set(1, 0, 0);
        Check.due("set NULL", x.status(), 1);
        x.sheet(1, 1, 2);
        x.copy(0, 0, 1, 0, 1);
        Check.due("STORE", x.status(), 5);
        x.copy(0, 0, 0, 0, 1);
        Check.due("copy without", x.status(), 0);
        x.copy(0, 0, 0, 0, 3);
        Check.due("copy PLACE", x.status(), 2);
        x.copy(0, 0, 2, 0, 3);
        Check.due("copy NULL", x.status(), 1);
        x.drop(1);
        Check.due("drop without", x.status(), 0);
        x.stroke(1, 0, 1);
        Check.due("stroke NULL", x.status(), 1);
        x.stroke(0, 1, 1);
        Check.due("stroke PLACE", x.status(), 2);
        x.set(0, 1, -1);
        x.drop(5);
        x.stroke(0, 0, 1);
        Check.due("stroke BAD leaves it", x.status(), 1);
        x.set(0, 1, 1);
        x.drop(5);
        x.stroke(0, 0, 1);
        Check.due("stroke without", x.status(), 0);
        statusOfPlans();
    }

    private static void statusOfPlans() {
        LightLines x = new LightLines();
        Check.fill(x, 0, 0, 0);
        for (int i = 0; i < 8; i++) {
            x.stroke(0, 0, 1);
        }
        x.plan(1, 0);
        Check.due("plan NULL", x.status(), 1);
        x.stroke(0, 0, 1);
        Check.due("FULL leaves it", x.status(), 1);
        x.plan(0, 0);
        Check.due("plan PLACE", x.status(), 2);
        Check.fill(x, 1, 7, 0, 6, 0, 5, 0, 4, 0, 3, 0, 2, 0, 1, 0, 0, 1);
        x.drop(2);
        x.best();
        Check.due("best is no call with a sheet", x.status(), 1);
        x.plan(1, 0);
        Check.due("plan without", x.status(), 0);
        x.set(1, 0, 6);
        x.drop(2);
        x.plan(1, 0);
        Check.due("plan BAD leaves it", x.status(), 1);
        x.as(0, 2);
        Check.due("as KIND", x.status(), 3);
        x.as(0, 4);
        x.as(8, 0);
        Check.due("as BAD leaves it", x.status(), 3);
        x.as(0, 1);
        Check.due("as without", x.status(), 0);
    }
}
