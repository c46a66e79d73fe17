/** Promises 6 to 10. */
public final class StrokesTest {
    public static void main(String[] args) {
        stroke();
        strokesAreFull();
        point();
        plan();
        best();
        order();
        Check.end();
    }

    private static void stroke() {
        LightLines x = new LightLines();
        Check.due("sheet -1", x.stroke(-1, 0, 1), Check.BAD);
        Check.due("sheet 8", x.stroke(8, 0, 1), Check.BAD);
        Check.due("no points", x.stroke(0, 0, 0), Check.BAD);
        Check.due("nine points", x.stroke(0, 0, 9), Check.BAD);
        Check.due("most points", x.stroke(0, 0, Integer.MAX_VALUE), Check.BAD);
        Check.due("least points", x.stroke(0, 0, Integer.MIN_VALUE), Check.BAD);
        Check.due("missing", x.stroke(0, -1, 1), Check.NULL);
        Check.fill(x, 0, 1, 2, 1000, 0, 1001, 5, 6, -1);
        Check.due("place -1", x.stroke(0, -1, 1), Check.PLACE);
        Check.due("place 7 of 8", x.stroke(0, 7, 1), Check.PLACE);
        Check.due("place 8 of 8", x.stroke(0, 8, 1), Check.PLACE);
        Check.due("most place", x.stroke(0, Integer.MAX_VALUE, 1), Check.PLACE);
        Check.due("least place", x.stroke(0, Integer.MIN_VALUE, 8), Check.PLACE);
        Check.due("PLACE goes ahead of BAD points", x.stroke(0, 4, 3), Check.PLACE);
        Check.due("x 1001", x.stroke(0, 4, 1), Check.BAD);
        Check.due("y 1001", x.stroke(0, 3, 1), Check.BAD);
        Check.due("y -1", x.stroke(0, 6, 1), Check.BAD);
        Check.due("the third point", x.stroke(0, 0, 3), Check.BAD);
        Check.due("none came", x.count(1), 0);
        Check.due("at the edge", x.stroke(0, 0, 2), 0);
        Check.due("from 1 on", x.stroke(0, 1, 1), 1);
        Check.due("x of it", x.point(1, 0, 0), 2);
        Check.due("y of it", x.point(1, 0, 1), 1000);
        Check.fill(x, 1, -1, 5, 6, 1001);
        Check.due("items beside its own do not count", x.stroke(1, 1, 1), 2);
        Check.due("the sheet may go", x.drop(0), 8);
        Check.due("what it told stays", x.point(0, 1, 0), 1000);
        bytesAndShorts();
    }

    private static void bytesAndShorts() {
        LightLines x = new LightLines();
        x.sheet(0, 0, 2);
        x.set(0, 0, 127);
        x.set(0, 1, 255);
        Check.due("byte 255 is -1", x.stroke(0, 0, 1), Check.BAD);
        x.set(0, 1, 100);
        Check.due("bytes", x.stroke(0, 0, 1), 0);
        x.sheet(1, 1, 2);
        x.set(1, 0, 1000);
        x.set(1, 1, 65536 + 999);
        Check.due("shorts", x.stroke(1, 0, 1), 1);
        Check.due("short x", x.point(1, 0, 0), 1000);
        Check.due("short y", x.point(1, 0, 1), 999);
    }

    private static void strokesAreFull() {
        LightLines x = new LightLines();
        for (int i = 0; i < 8; i++) {
            Check.due("stroke " + i, Check.draw(x, i, i), i);
        }
        Check.due("the ninth", x.stroke(7, 0, 1), Check.FULL);
        Check.due("BAD goes ahead of FULL", x.stroke(7, 0, 9), Check.BAD);
        Check.due("FULL goes ahead of NULL", x.stroke(0, 0, 1), Check.FULL);
        Check.due("FULL goes ahead of PLACE", x.stroke(7, 9, 1), Check.FULL);
        Check.due("eight", x.count(1), 8);
        Check.due("their points", x.count(2), 8);
    }

    private static void point() {
        LightLines x = new LightLines();
        Check.due("no stroke", x.point(0, 0, 0), Check.BAD);
        Check.draw(x, 1, 2, 3, 4, 5, 6, 7, 8, 9, 10, 11, 12, 13, 14, 15, 16);
        for (int i = 0; i < 8; i++) {
            Check.due("x of " + i, x.point(0, i, 0), 2 * i + 1);
            Check.due("y of " + i, x.point(0, i, 1), 2 * i + 2);
        }
        Check.due("stroke -1", x.point(-1, 0, 0), Check.BAD);
        Check.due("stroke 1", x.point(1, 0, 0), Check.BAD);
        Check.due("stroke 8", x.point(8, 0, 0), Check.BAD);
        Check.due("point -1", x.point(0, -1, 0), Check.BAD);
        Check.due("point 8", x.point(0, 8, 0), Check.BAD);
        Check.due("what -1", x.point(0, 0, -1), Check.BAD);
        Check.due("what 2", x.point(0, 0, 2), Check.BAD);
    }

    private static void plan() {
        LightLines x = new LightLines();
        Check.due("sheet 8 goes ahead of STATE", x.plan(8, 0), Check.BAD);
        Check.due("sheet -1", x.plan(-1, 0), Check.BAD);
        Check.due("no strokes", x.plan(0, 0), Check.STATE);
        Check.draw(x, 100, 0, 300, 50);
        Check.draw(x, 10, 20);
        Check.due("missing", x.plan(0, -1), Check.NULL);
        Check.fill(x, 0, 9, 1, 1, 0, 1, 0, 0);
        Check.due("place -1", x.plan(0, -1), Check.PLACE);
        Check.due("place 4 of 7", x.plan(0, 4), Check.PLACE);
        Check.due("most place", x.plan(0, Integer.MAX_VALUE), Check.PLACE);
        // 1 back, 0 back: 0,0 - 10,20 is 20; - 300,50 is 290; 100,0 - 0,0 is 100.
        Check.due("from 1 on", x.plan(0, 1), 410);
        Check.due("order 0", x.order(0, 0), 1);
        Check.due("direction 0", x.order(0, 1), 1);
        Check.due("order 1", x.order(1, 0), 0);
        Check.due("direction 1", x.order(1, 1), 1);
        int[][] none = {{0, 0, 0, 0}, {0, 0, 1, 2}, {0, -1, 1, 0}, {0, 0, 2, 0}, {-1, 0, 1, 0}, {1, 0, 1, 1}, {8, 0, 0, 0}, {32, 0, 1, 0}};
        for (int[] p : none) {
            Check.fill(x, 1, p);
            Check.due("no plan", x.plan(1, 0), Check.BAD);
        }
        Check.due("a refused one changes nothing", x.order(0, 0), 1);
        Check.due("nor the direction", x.order(1, 1), 1);
        Check.fill(x, 1, 0, 0, 1, 0);
        // 0 forward, 1: 0,0 - 100,0 is 100; 300,50 - 10,20 is 290; 10,20 - 0,0 is 20.
        Check.due("as they came", x.plan(1, 0), 410);
        Check.fill(x, 1, 1, 0, 0, 0);
        // 1, 0 forward: 20; 10,20 - 100,0 is 90; 300,50 - 0,0 is 300.
        Check.due("1 first", x.plan(1, 0), 410);
        Check.draw(x, 0, 700);
        Check.due("a stroke more ends the plan", x.order(0, 0), 0);
        Check.due("it is last", x.order(2, 0), 2);
        Check.due("the plan has too few now", x.plan(1, 0), Check.PLACE);
        Check.fill(x, 1, 0, 0, 1, 0, 0, 0);
        Check.due("0 comes again behind 1", x.plan(1, 0), Check.BAD);
        Check.fill(x, 1, 2, 0, 1, 0, 0, 1);
        // 0,0 - 0,700 is 700; - 10,20 is 680; - 300,50 is 290; 100,0 - 0,0 is 100.
        Check.due("three", x.plan(1, 0), 1770);
    }

    private static void best() {
        LightLines x = new LightLines();
        Check.due("no strokes", x.best(), Check.STATE);
        Check.draw(x, 500, 0, 100, 0);
        // Back it is 100 to 100,0 and 500 from 500,0: as far as forward, and forward is ahead.
        Check.due("one line", x.best(), 600);
        Check.due("forward", x.order(0, 1), 0);
        Check.draw(x, 500, 10, 500, 100, 100, 100);
        // 0 back to 500,0, 10 to 500,10, and from 100,100: 100.
        Check.due("two lines", x.best(), 210);
        Check.due("stroke 0 first", x.order(0, 0), 0);
        Check.due("it is gone back", x.order(0, 1), 1);
        Check.due("then stroke 1", x.order(1, 0), 1);
        Check.due("gone forward", x.order(1, 1), 0);
        Check.due("again the same", x.best(), 210);
        Check.draw(x, 50, 50);
        Check.due("a stroke more: as they came", x.order(0, 1), 0);
        Check.due("three", x.best(), 210);
        Check.due("0 back ahead of the rest", x.order(0, 0), 0);
        Check.due("gone back", x.order(0, 1), 1);
        Check.due("the spot is last", x.order(2, 0), 2);
        Check.due("a spot is gone forward", x.order(2, 1), 0);
        Check.fill(x, 0, 2, 0, 1, 0, 0, 0);
        x.plan(0, 0);
        Check.due("a plan between", x.best(), 210);
        Check.due("best is told again", x.order(0, 0), 0);
    }

    private static void order() {
        LightLines x = new LightLines();
        Check.due("what goes ahead", x.order(0, 2), Check.BAD);
        Check.due("what -1", x.order(0, -1), Check.BAD);
        Check.due("none yet", x.order(0, 1), Check.NONE);
        Check.draw(x, 1, 1);
        Check.draw(x, 2, 2);
        Check.due("0", x.order(0, 0), 0);
        Check.due("1", x.order(1, 0), 1);
        Check.due("2", x.order(2, 0), Check.NONE);
        Check.due("8", x.order(8, 1), Check.NONE);
        Check.due("-1", x.order(-1, 0), Check.NONE);
    }
}
