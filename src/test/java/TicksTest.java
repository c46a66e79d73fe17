/** Promises 11 to 17. */
public final class TicksTest {
    public static void main(String[] args) {
        rule();
        zone();
        open();
        ticksOfASpot();
        holds();
        planIsGone();
        full();
        mirrors();
        delay();
        shut();
        burns();
        cellsEnd();
        changesAreSeen();
        Check.end();
    }

    private static void rule() {
        LightLines x = new LightLines();
        int[] least = {1, 0, 1, 0, 0, 1};
        int[] most = {1000, 5, 16, 16, 5, 1000};
        int[] first = {50, 1, 8, 10, 0, 40};
        for (int what = 0; what < 6; what++) {
            Check.due("below " + what, x.rule(what, least[what] - 1), Check.BAD);
            Check.due("above " + what, x.rule(what, most[what] + 1), Check.BAD);
            Check.due("least of " + what, x.rule(what, least[what]), first[what]);
            Check.due("most of " + what, x.rule(what, most[what]), least[what]);
            Check.due("same of " + what, x.rule(what, most[what]), most[what]);
        }
        Check.due("rule -1", x.rule(-1, 1), Check.BAD);
        Check.due("rule 6", x.rule(6, 1), Check.BAD);
        Check.due("rule of the most", x.rule(Integer.MAX_VALUE, 1), Check.BAD);
    }

    private static void zone() {
        LightLines x = new LightLines();
        Check.due("zone -1", x.zone(-1, 0, 0, 1, 1), Check.BAD);
        Check.due("zone 4", x.zone(4, 0, 0, 1, 1), Check.BAD);
        Check.due("x0 -1", x.zone(0, -1, 0, 1, 1), Check.BAD);
        Check.due("y0 -1", x.zone(0, 0, -1, 1, 1), Check.BAD);
        Check.due("x1 1001", x.zone(0, 0, 0, 1001, 1), Check.BAD);
        Check.due("y1 1001", x.zone(0, 0, 0, 1, 1001), Check.BAD);
        Check.due("x0 above x1", x.zone(0, 2, 0, 1, 1), Check.BAD);
        Check.due("y0 above y1", x.zone(0, 0, 2, 1, 1), Check.BAD);
        Check.due("none came", x.count(4), 0);
        Check.due("all of it", x.zone(0, 0, 0, 1000, 1000), 1);
        Check.due("one place", x.zone(3, 1000, 1000, 1000, 1000), 1);
        Check.due("two", x.count(4), 2);
        Check.due("in place of what is there", x.zone(3, 1, 1, 1, 1), 1);
        Check.due("two still", x.count(4), 2);
    }

    private static void open() {
        LightLines x = new LightLines();
        Check.due("open -1", x.open(-1), Check.BAD);
        Check.due("open 4", x.open(4), Check.BAD);
        Check.due("it was none", x.open(2), 0);
        x.zone(2, 0, 0, 1, 1);
        Check.due("another one", x.open(1), 0);
        Check.due("it was one", x.open(2), 1);
        Check.due("none left", x.count(4), 0);
        Check.due("none again", x.open(2), 0);
    }

    /** Asks what each tick is told: x, y, lit. */
    private static void pathIs(LightLines x, int[]... told) {
        Check.due("ticks", x.ticks(), told.length);
        for (int i = 0; i < told.length; i++) {
            for (int what = 0; what < 3; what++) {
                Check.due("tick(" + i + ", " + what + ")", x.tick(i, what), told[i][what]);
            }
        }
        Check.due("behind the last", x.tick(told.length, 0), Check.NONE);
        Check.due("ahead of the first", x.tick(-1, 0), Check.NONE);
    }

    private static void ticksOfASpot() {
        LightLines x = new LightLines();
        Check.due("what -1", x.tick(0, -1), Check.BAD);
        Check.due("what 8", x.tick(0, 8), Check.BAD);
        Check.due("no ticks", x.tick(0, 7), Check.NONE);
        Check.draw(x, 101, 50);
        // 101 by 50 is 3 ticks; 101 k by 3: 33, 67, 101; 50 k by 3: 16, 33, 50. Back: 101 less 33, 67, 101.
        pathIs(x, new int[] {33, 16, 0}, new int[] {67, 33, 0}, new int[] {101, 50, 0}, new int[] {101, 50, 0},
            new int[] {101, 50, 1}, new int[] {101, 50, 0}, new int[] {68, 34, 0}, new int[] {34, 17, 0}, new int[] {0, 0, 0});
        x.rule(1, 0);
        x.rule(0, 101);
        pathIs(x, new int[] {101, 50, 0}, new int[] {101, 50, 1}, new int[] {0, 0, 0});
        LightLines atNull = new LightLines();
        Check.draw(atNull, 0, 0);
        pathIs(atNull, new int[] {0, 0, 0}, new int[] {0, 0, 1}, new int[] {0, 0, 0});
        LightLines late = new LightLines();
        Check.draw(late, 0, 0);
        late.rule(1, 2);
        pathIs(late, new int[] {0, 0, 0}, new int[] {0, 0, 0}, new int[] {0, 0, 1}, new int[] {0, 0, 0}, new int[] {0, 0, 0});
    }

    /** Ticks of a stroke of three points from 0, 0 at the greatest speed without waiting. */
    private static int lit(int... points) {
        LightLines x = new LightLines();
        Check.draw(x, points);
        x.rule(0, 1000);
        x.rule(1, 0);
        return x.all(0);
    }

    private static void holds() {
        Check.due("straight on", lit(0, 0, 10, 0, 20, 0), 3);
        Check.due("straight on, aslant", lit(0, 0, 10, 5, 20, 10), 3);
        Check.due("a right angle", lit(0, 0, 10, 0, 10, 10), 4);
        Check.due("a flat corner", lit(0, 0, 10, 0, 20, 1), 4);
        Check.due("a sharp corner", lit(0, 0, 10, 0, 9, 10), 5);
        Check.due("straight back", lit(0, 0, 10, 0, 0, 0), 5);
        Check.due("no way to it", lit(5, 5, 5, 5, 20, 0), 2);
        Check.due("no way from it", lit(0, 0, 10, 0, 10, 0), 2);
        Check.due("two points", lit(0, 0, 10, 0), 2);
        Check.due("one point", lit(0, 0), 1);
        Check.due("a loop's ends are not held", lit(0, 0, 10, 0, 10, 10, 0, 10, 0, 0), 8);
        LightLines x = new LightLines();
        Check.draw(x, 0, 0, 10, 0, 9, 10);
        x.rule(0, 1000);
        pathIs(x, new int[] {0, 0, 0}, new int[] {0, 0, 1}, new int[] {10, 0, 1}, new int[] {10, 0, 1}, new int[] {10, 0, 1},
            new int[] {9, 10, 1}, new int[] {9, 10, 0}, new int[] {0, 0, 0});
    }

    private static void planIsGone() {
        LightLines x = new LightLines();
        Check.draw(x, 10, 0, 20, 0, 20, 5);
        Check.draw(x, 7, 7);
        x.rule(0, 1000);
        x.rule(1, 0);
        pathIs(x, new int[] {10, 0, 0}, new int[] {10, 0, 1}, new int[] {20, 0, 1}, new int[] {20, 0, 1}, new int[] {20, 5, 1},
            new int[] {7, 7, 0}, new int[] {7, 7, 1}, new int[] {0, 0, 0});
        Check.fill(x, 0, 1, 0, 0, 1);
        x.plan(0, 0);
        pathIs(x, new int[] {7, 7, 0}, new int[] {7, 7, 1}, new int[] {20, 5, 0}, new int[] {20, 5, 1}, new int[] {20, 0, 1},
            new int[] {20, 0, 1}, new int[] {10, 0, 1}, new int[] {0, 0, 0});
        Check.draw(x, 7, 7);
        Check.due("as they came, and one more", x.tick(0, 0), 10);
        Check.due("no move between", x.ticks(), 9);
        Check.fill(x, 0, 2, 0, 0, 1, 1, 0);
        x.plan(0, 0);
        Check.due("7 again", x.tick(0, 0), 7);
    }

    private static void full() {
        LightLines x = new LightLines();
        Check.draw(x, 998, 0, 0, 0);
        x.rule(0, 1);
        // 998, WAIT, 1, 998, WAIT: with WAIT 1 1999 ticks.
        Check.due("1999", x.ticks(), 1999);
        x.rule(1, 2);
        Check.due("2001", x.ticks(), Check.FULL);
        Check.due("tick", x.tick(0, 0), Check.FULL);
        Check.due("tick -1", x.tick(-1, 5), Check.FULL);
        Check.due("BAD goes ahead", x.tick(0, 8), Check.BAD);
        for (int what = 0; what < 6; what++) {
            Check.due("all " + what, x.all(what), Check.FULL);
        }
        Check.due("all 6", x.all(6), Check.BAD);
        Check.due("all -1", x.all(-1), Check.BAD);
        Check.due("burn", x.burn(0, 0), Check.FULL);
        Check.due("burn of no cell", x.burn(0, 11), Check.BAD);
        x.rule(1, 1);
        Check.due("1999 again", x.ticks(), 1999);
        LightLines most = new LightLines();
        Check.draw(most, 999, 0, 0, 0);
        most.rule(0, 1);
        most.rule(1, 0);
        Check.due("1999, too", most.ticks(), 1999);
        Check.draw(most, 0, 0);
        Check.due("2000", most.ticks(), 2000);
        Check.due("the last one", most.tick(1999, 2), 1);
        most.rule(2, 16);
        most.rule(3, 16);
        Check.due("the mirrors at the last one", most.tick(1999, 3), 0);
        Check.due("lit in all", most.all(1), 1001);
        Check.due("none behind it", most.tick(2000, 2), Check.NONE);
        Check.draw(most, 0, 0);
        Check.due("one more", most.ticks(), Check.FULL);
        LightLines wide = new LightLines();
        for (int i = 0; i < 8; i++) {
            Check.draw(wide, 1000, 1000, 0, 0, 1000, 1000, 0, 0, 1000, 1000, 0, 0, 1000, 1000, 0, 0);
        }
        wide.rule(0, 1);
        Check.due("far too many", wide.ticks(), Check.FULL);
        Check.due("best all the same", wide.best(), 0);
    }

    private static void mirrors() {
        LightLines x = new LightLines();
        Check.draw(x, 100, 40);
        x.rule(0, 1000);
        x.rule(1, 2);
        // Told 100, 40 six times, then 0, 0 (K 8, D 10).
        // x: u 50 at 50; (400 - 500) by 16 is -6: u 44 at 94; (48 - 440) by 16 is -24: u 20 at 114;
        // (-112 - 200) by 16 is -19: u 1 at 115; (-120 - 10) by 16 is -8: u -7 at 108.
        int[] mx = {50, 94, 114, 115, 108};
        for (int i = 0; i < mx.length; i++) {
            Check.due("mirror x " + i, x.tick(i, 3), mx[i]);
        }
        // y: u 20 at 20; (160 - 200) by 16 is -2: u 18 at 38; (16 - 180) by 16 is -10: u 8 at 46;
        // (-48 - 80) by 16 is -8: u 0 at 46.
        int[] my = {20, 38, 46, 46};
        for (int i = 0; i < my.length; i++) {
            Check.due("mirror y " + i, x.tick(i, 4), my[i]);
        }
        Check.due("tick 3 is told lit", x.tick(3, 2), 1);
        Check.due("LAG is the greater way", x.tick(3, 7), 15);
        Check.due("a dark one has none", x.tick(2, 7), 0);
        Check.due("the greatest LAG", x.all(3), 15);
        x.rule(2, 16);
        x.rule(3, 16);
        Check.due("no lag", x.all(3), 0);
        Check.due("where it is told", x.tick(5, 3), 100);
        Check.due("at the end", x.tick(x.ticks() - 1, 3), 0);
        x.rule(2, 1);
        x.rule(3, 0);
        // 100 by 16 is 6: at 6; 94 by 16 is 5: u 11 at 17; 83 by 16 is 5: u 16 at 33; 67 by 16 is 4: u 20 at 53.
        Check.due("slow", x.tick(3, 3), 53);
        // 40 by 16 is 2: at 2; 2: u 4 at 6; 2: u 6 at 12; 28 by 16 is 1: u 7 at 19.
        Check.due("slow y", x.tick(3, 4), 19);
        Check.due("x lags more", x.tick(3, 7), 47);
    }

    private static void delay() {
        LightLines x = new LightLines();
        Check.draw(x, 10, 10);
        x.rule(0, 1000);
        // A move, WAIT, lit at tick 2, WAIT, a move: 5 ticks.
        for (int delay = 0; delay <= 5; delay++) {
            x.rule(4, delay);
            for (int i = 0; i < 5; i++) {
                Check.due("told " + i, x.tick(i, 2), i == 2 ? 1 : 0);
                Check.due("lit " + i + " late " + delay, x.tick(i, 5), i - delay == 2 ? 1 : 0);
            }
            Check.due("told in all", x.all(0), 1);
            Check.due("lit in all", x.all(1), delay <= 2 ? 1 : 0);
        }
        Check.due("LAG is that of the tick told", x.tick(4, 7), 0);
    }

    private static void shut() {
        LightLines x = new LightLines();
        Check.draw(x, 0, 0, 30, 20);
        x.rule(0, 10);
        x.rule(1, 0);
        x.rule(2, 16);
        x.rule(3, 16);
        // Lit at 0,0 10,6 20,13 30,20; dark at 20,14 10,7 0,0.
        x.zone(0, 10, 6, 20, 13);
        int[] shut = {0, 1, 1, 0, 0, 1, 0};
        for (int i = 0; i < shut.length; i++) {
            Check.due("shut " + i, x.tick(i, 6), shut[i]);
            Check.due("lit " + i, x.tick(i, 5), i < 4 && shut[i] == 0 ? 1 : 0);
        }
        Check.due("told lit", x.all(0), 4);
        Check.due("lit", x.all(1), 2);
        Check.due("shut", x.all(2), 3);
        x.zone(0, 11, 6, 20, 12);
        Check.due("beside its rims", x.all(2), 0);
        x.zone(1, 0, 0, 9, 1000);
        x.zone(2, 30, 20, 30, 20);
        x.zone(3, 0, 14, 1000, 14);
        Check.due("four zones", x.all(2), 4);
        Check.due("two of them lit", x.all(1), 2);
        x.open(3);
        Check.due("three", x.all(2), 3);
        x.rule(4, 3);
        // Late by 3: ticks 3 .. 6 get light; 3 (30,20) and 6 (0,0) are shut.
        Check.due("late", x.all(1), 2);
    }

    private static void burns() {
        LightLines x = new LightLines();
        Check.due("cell -1", x.burn(-1, 0), Check.BAD);
        Check.due("cell -1 of y", x.burn(0, -1), Check.BAD);
        Check.due("cell 11", x.burn(0, 11), Check.BAD);
        Check.due("cell 11 of x", x.burn(11, 0), Check.BAD);
        Check.due("nothing burns", x.burn(10, 10), 0);
        x.rule(0, 50);
        x.rule(1, 0);
        x.rule(2, 16);
        x.rule(3, 16);
        Check.draw(x, 0, 950, 250, 1000);
        // Lit at x 0, 50, 100, 150, 200, 250 and y 950 .. 990, 1000.
        Check.due("cell 0 9", x.burn(0, 9), 2);
        Check.due("cell 1 9", x.burn(1, 9), 2);
        Check.due("cell 2 9", x.burn(2, 9), 1);
        Check.due("cell 2 10", x.burn(2, 10), 1);
        Check.due("cell 9 0", x.burn(9, 0), 0);
        Check.due("greatest", x.all(4), 2);
        x.rule(5, 2);
        Check.due("not more than LIMIT", x.all(5), 1);
        x.rule(5, 1);
        Check.due("more than LIMIT", x.all(5), 0);
        x.zone(0, 0, 0, 199, 1000);
        Check.due("what is shut does not burn", x.burn(0, 9), 0);
        Check.due("greatest now", x.all(4), 1);
        Check.due("safe now", x.all(5), 1);
    }

    /** Mirrors that swing beyond the rims burn no cell there. */
    private static void cellsEnd() {
        LightLines x = new LightLines();
        Check.draw(x, 1000, 0, 1000, 1000, 1000, 0, 0, 0, 0, 1000);
        x.rule(0, 200);
        x.rule(2, 8);
        x.rule(3, 10);
        int sum = 0;
        int inside = 0;
        boolean below = false;
        boolean above = false;
        for (int cx = 0; cx <= 10; cx++) {
            for (int cy = 0; cy <= 10; cy++) {
                sum += x.burn(cx, cy);
            }
        }
        for (int i = 0; i < x.ticks(); i++) {
            int mx = x.tick(i, 3);
            int my = x.tick(i, 4);
            boolean isLit = x.tick(i, 5) == 1;
            inside += isLit && mx >= 0 && my >= 0 && mx <= 1000 && my <= 1000 ? 1 : 0;
            below |= isLit && (mx < 0 && mx > -100 || my < 0 && my > -100);
            above |= isLit && (mx > 1000 && mx < 1100 || my > 1000 && my < 1100);
        }
        Check.due("some are below 0", below ? 1 : 0, 1);
        Check.due("some are above 1000", above ? 1 : 0, 1);
        Check.due("only those inside burn", sum, inside);
    }

    /** Every change comes through to every answer, whatever was asked ahead of it. */
    private static void changesAreSeen() {
        LightLines x = new LightLines();
        Check.draw(x, 100, 100, 300, 100);
        x.rule(2, 16);
        x.rule(3, 16);
        Check.due("lit", x.all(1), 5);
        x.zone(0, 0, 0, 1000, 1000);
        Check.due("zone seen", x.all(1), 0);
        Check.due("zone seen by a tick", x.tick(3, 6), 1);
        x.open(0);
        Check.due("open seen", x.all(1), 5);
        x.rule(4, 5);
        Check.due("DELAY seen", x.tick(3, 5), 0);
        x.rule(0, 100);
        Check.due("SPEED seen", x.all(0), 3);
        x.rule(1, 0);
        Check.due("WAIT seen", x.ticks(), 7);
        x.rule(3, 8);
        Check.due("D seen", x.tick(1, 3), 150);
        x.rule(2, 8);
        Check.due("K seen", x.tick(0, 3), 50);
        Check.fill(x, 0, 0, 1);
        x.plan(0, 0);
        Check.due("plan seen", x.tick(2, 0), 300);
        Check.draw(x, 0, 0);
        Check.due("stroke seen", x.all(0), 4);
        Check.fill(x, 0, 1, 0, 0, 1);
        x.plan(0, 0);
        Check.due("plan seen again", x.tick(0, 0), 0);
        x.best();
        Check.due("best seen", x.tick(0, 0), 100);
    }
}
