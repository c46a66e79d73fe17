/** Edges of promises 11 to 17: each method is about the words that it quotes. */
public final class EdgesOfTicksTest {
    private static final int LOW = Integer.MIN_VALUE, HIGH = Integer.MAX_VALUE;

    public static void main(String[] args) {
        rulesAreBounded();
        ruleIsWhatItWas();
        noStrokes();
        waits();
        spots();
        manyPoints();
        linesOfOnePlace();
        lengthsOfMoves();
        cutsOfMoves();
        holds();
        fullByEachPart();
        fullOfTwoThousand();
        fullByThePlan();
        mirrorsBegin();
        mirrorsAreCut();
        mirrorsOfRules();
        delay();
        lateAndShut();
        zonesHaveRims();
        zonesAtTheEnds();
        zonesOverlap();
        zoneRefused();
        openRefused();
        cellsAreCut();
        noCells();
        safe();
        safeByTheGreatestLimit();
        lag();
        tickRefused();
        allRefused();
        burnRefused();
        Check.end();
    }

    /** SPEED, WAIT; the mirrors are where they are told to be. */
    private static LightLines exact(int speed, int wait) {
        LightLines x = new LightLines();
        x.rule(0, speed);
        x.rule(1, wait);
        x.rule(2, 16);
        x.rule(3, 16);
        return x;
    }

    private static LightLines exactSpot(int px, int py) {
        LightLines x = exact(1000, 0);
        Check.draw(x, px, py);
        return x;
    }

    /** All ticks: x, y and whether it is told LIT, and no more of them. */
    private static void toldIs(LightLines x, int... told) {
        Check.due("ticks()", x.ticks(), told.length / 3);
        for (int i = 0; i < told.length; i++) {
            Check.due("tick(" + i / 3 + ", " + i % 3 + ")", x.tick(i / 3, i % 3), told[i]);
        }
        Check.due("behind the last", x.tick(told.length / 3, 0), Check.NONE);
    }

    private static void rulesAreBounded() {
        Check.says("0 SPEED, 1 WAIT, 2 K, 3 D, 4 DELAY, 5 LIMIT: what it was. BAD.");
        int[] least = {1, 0, 1, 0, 0, 1};
        int[] most = {1000, 5, 16, 16, 5, 1000};
        int[] first = {50, 1, 8, 10, 0, 40};
        for (int what = 0; what < 6; what++) {
            LightLines x = new LightLines();
            for (int v : new int[] {least[what] - 1, most[what] + 1, LOW, HIGH, -1, 1001}) {
                Check.due("rule(" + what + ", " + v + ")", x.rule(what, v), Check.BAD);
            }
            Check.due("the least of " + what, x.rule(what, least[what]), first[what]);
            Check.due("the most of " + what, x.rule(what, most[what]), least[what]);
            Check.due("BAD again", x.rule(what, most[what] + 1), Check.BAD);
            Check.due("it stayed", x.rule(what, least[what]), most[what]);
        }
        LightLines x = new LightLines();
        for (int what : new int[] {-1, 6, LOW, HIGH}) {
            Check.due("what " + what, x.rule(what, 1), Check.BAD);
        }
    }

    private static void ruleIsWhatItWas() {
        Check.says("What is told: 0 SPEED, 1 WAIT, 2 K, 3 D, 4 DELAY, 5 LIMIT: what it was.");
        LightLines x = new LightLines();
        for (int what = 0; what < 6; what++) {
            x.rule(what, 2);
        }
        for (int what = 0; what < 6; what++) {
            Check.due("2 of " + what, x.rule(what, 3), 2);
            Check.due("the same again of " + what, x.rule(what, 3), 3);
        }
    }

    private static void noStrokes() {
        Check.says("THE TICKS of the drawing, by the PLAN told last");
        LightLines x = new LightLines();
        x.rule(0, 1);
        x.rule(1, 5);
        x.rule(4, 5);
        Check.due("no ticks", x.ticks(), 0);
        for (int what = 0; what < 8; what++) {
            Check.due("the first tick", x.tick(0, what), Check.NONE);
        }
        int[] all = {0, 0, 0, 0, 0, 1};
        for (int what = 0; what < 6; what++) {
            Check.due("all(" + what + ")", x.all(what), all[what]);
        }
        Check.due("the first cell", x.burn(0, 0), 0);
        Check.due("the last cell", x.burn(10, 10), 0);
    }

    private static void waits() {
        Check.says("WAIT (0 to 5, at first 1) ticks there, dark");
        LightLines x = new LightLines();
        Check.draw(x, 0, 0, 3, 0);
        toldIs(x, 0, 0, 0, 0, 0, 1, 3, 0, 1, 3, 0, 0, 0, 0, 0);
        x.rule(1, 0);
        toldIs(x, 0, 0, 1, 3, 0, 1, 0, 0, 0);
        x.rule(1, 5);
        toldIs(x, 0, 0, 0, 0, 0, 0, 0, 0, 0, 0, 0, 0, 0, 0, 0, 0, 0, 1, 3, 0, 1, 3, 0, 0, 3, 0, 0, 3, 0, 0, 3, 0, 0, 3, 0, 0, 0, 0, 0);
        x.rule(1, 6);
        Check.due("6 is not told", x.ticks(), 13);
        LightLines two = new LightLines();
        Check.draw(two, 4, 4);
        Check.draw(two, 4, 4);
        Check.says("to each STROKE's first POINT a move, dark");
        toldIs(two, 4, 4, 0, 4, 4, 0, 4, 4, 1, 4, 4, 0, 4, 4, 0, 4, 4, 1, 4, 4, 0, 0, 0, 0);
    }

    private static void spots() {
        Check.says("(A SPOT: WAIT, one tick LIT, WAIT.)");
        LightLines x = new LightLines();
        Check.draw(x, 0, 0);
        toldIs(x, 0, 0, 0, 0, 0, 1, 0, 0, 0);
        x.rule(1, 0);
        toldIs(x, 0, 0, 1);
        x.rule(1, 2);
        toldIs(x, 0, 0, 0, 0, 0, 0, 0, 0, 1, 0, 0, 0, 0, 0, 0);
        Check.says("At the end a move to 0, 0, dark.");
        LightLines far = exact(1000, 0);
        Check.draw(far, 1000, 1000);
        toldIs(far, 1000, 1000, 0, 1000, 1000, 1, 0, 0, 0);
    }

    private static void manyPoints() {
        Check.says("then its POINTS: one tick at the first, LIT; to the next one a move, LIT; at each POINT but the first and the "
            + "last of it HOLDS, LIT; WAIT ticks at the last POINT, dark.");
        LightLines x = exact(1, 1);
        Check.draw(x, 0, 0, 1, 0, 2, 0, 2, 1, 2, 0, 1, 0, 1, 0, 0, 0);
        // Straight on; a corner; straight back; a corner; then no way to the seventh point, and from it straight on.
        toldIs(x, 0, 0, 0, 0, 0, 1, 1, 0, 1, 2, 0, 1, 2, 0, 1, 2, 1, 1, 2, 1, 1, 2, 1, 1, 2, 0, 1, 2, 0, 1, 1, 0, 1, 0, 0, 1, 0, 0, 0);
        Check.says("each a place x, y and whether it is LIT. From 0, 0:");
        Check.fill(x, 0, 0, 1);
        x.plan(0, 0);
        toldIs(x, 0, 0, 0, 0, 0, 1, 1, 0, 1, 2, 0, 1, 2, 0, 1, 2, 1, 1, 2, 1, 1, 2, 1, 1, 2, 0, 1, 2, 0, 1, 1, 0, 1, 0, 0, 1, 0, 0, 0);
    }

    private static void linesOfOnePlace() {
        Check.says("(None, if w is 0.)");
        LightLines x = exact(1, 0);
        Check.draw(x, 0, 0, 0, 0);
        toldIs(x, 0, 0, 1);
        LightLines loop = exact(1, 0);
        Check.draw(loop, 0, 0, 0, 0, 0, 0, 0, 0, 0, 0, 0, 0, 0, 0, 0, 0);
        toldIs(loop, 0, 0, 1);
        LightLines waiting = exact(1, 1);
        Check.draw(waiting, 0, 1, 0, 1, 0, 1);
        toldIs(waiting, 0, 1, 0, 0, 1, 0, 0, 1, 1, 0, 1, 0, 0, 0, 0);
    }

    /** How many ticks the move to px, py takes by SPEED. */
    private static int moves(int speed, int px, int py) {
        LightLines x = exact(speed, 0);
        Check.draw(x, px, py, 0, 0);
        return x.ticks() - x.all(0);
    }

    private static void lengthsOfMoves() {
        Check.says("A move of WAY w by SPEED (1 to 1000, at first 50): s ticks, s being w by SPEED, rounded up");
        Check.due("w 0", moves(1, 0, 0), 0);
        Check.due("w 1 by 1", moves(1, 1, 0), 1);
        Check.due("w 1 by 1000", moves(1000, 0, 1), 1);
        Check.due("w 999 by 1000", moves(1000, 999, 1), 1);
        Check.due("w 1000 by 1000", moves(1000, 1000, 1000), 1);
        Check.due("w 1000 by 999", moves(999, 1, 1000), 2);
        Check.due("w 1000 by 500", moves(500, 1000, 1), 2);
        Check.due("w 1000 by 499", moves(499, 1000, 1), 3);
        Check.due("w 900 by 1", moves(1, 900, 900), 900);
        Check.due("w 50 by 50", moves(50, 50, 0), 1);
        Check.due("w 51 by 50", moves(50, 0, 51), 2);
        LightLines first = new LightLines();
        Check.draw(first, 100, 0);
        Check.due("50 at first: 2, 1, 1, 1, 2", first.ticks(), 7);
        LightLines more = new LightLines();
        Check.draw(more, 101, 0);
        Check.due("101 by 50: 3, 1, 1, 1, 3", more.ticks(), 9);
    }

    private static void cutsOfMoves() {
        Check.says("tick k of them (1 on) is at x0 + (x1 - x0) k by s, cut towards 0 as it is added; y likewise.");
        LightLines x = exact(2, 0);
        Check.draw(x, 3, 1);
        // There 3 k by 2: 1, 3 and 1 k by 2: 0, 1. Back -3 k by 2: -1, -3 and -1 k by 2: 0, -1.
        toldIs(x, 1, 0, 0, 3, 1, 0, 3, 1, 1, 2, 1, 0, 0, 0, 0);
        LightLines across = exact(334, 0);
        Check.draw(across, 0, 0, 1000, 0, 0, 1000);
        // 1000 k by 3: 333, 666, 1000; a corner of c below 0; x down by 333, 666, y up; home: 334 y down by 3 ticks.
        toldIs(across, 0, 0, 1, 333, 0, 1, 666, 0, 1, 1000, 0, 1, 1000, 0, 1, 1000, 0, 1, 667, 333, 1, 334, 666, 1, 0, 1000, 1,
            0, 667, 0, 0, 334, 0, 0, 0, 0);
        LightLines flat = exact(1, 0);
        Check.draw(flat, 0, 0, 3, 1, 0, 0);
        // y: k by 3 is 0, 0, 1; down -k by 3 is 0, 0, -1.
        toldIs(flat, 0, 0, 1, 1, 0, 1, 2, 0, 1, 3, 1, 1, 3, 1, 1, 3, 1, 1, 2, 1, 1, 1, 1, 1, 0, 0, 1);
    }

    /** How many of the LIT ticks of three points are neither the first nor of a move. */
    private static int held(int... points) {
        LightLines x = exact(1000, 0);
        Check.draw(x, points);
        int moves = 0;
        for (int i = 2; i < points.length; i += 2) {
            moves += points[i] != points[i - 2] || points[i + 1] != points[i - 1] ? 1 : 0;
        }
        return x.all(0) - 1 - moves;
    }

    private static void holds() {
        Check.says("2 ticks there, if c is below 0, 1, if it is 0 or more and ax by - ay bx is not 0; else none.");
        Check.due("c -1", held(0, 0, 1, 0, 0, 7), 2);
        Check.due("c -1000000, straight back", held(0, 0, 1000, 0, 0, 0), 2);
        Check.due("c -2000000", held(0, 0, 1000, 1000, 0, 0), 2);
        Check.due("c 0, a right angle to the left", held(0, 0, 1, 0, 1, 1), 1);
        Check.due("c 0, a right angle to the right", held(0, 0, 0, 1, 1, 1), 1);
        Check.due("c 0 aslant", held(0, 1, 1, 0, 2, 1), 1);
        Check.due("c 1, a corner of 1", held(0, 0, 1, 0, 2, 1), 1);
        Check.due("c 1, a corner of -1", held(0, 1, 1, 1, 2, 0), 1);
        Check.due("c 249500, a corner of 1", held(0, 0, 499, 0, 999, 1), 1);
        Check.due("straight on", held(0, 0, 1, 0, 2, 0), 0);
        Check.due("straight on, aslant and farther", held(0, 0, 2, 1, 1000, 500), 0);
        Check.due("no way to it", held(5, 5, 5, 5, 1, 1), 0);
        Check.due("no way from it", held(5, 5, 1, 1, 1, 1), 0);
        Check.due("no way at all", held(5, 5, 5, 5, 5, 5), 0);
        Check.says("at each POINT but the first and the last of it HOLDS, LIT");
        Check.due("two points", held(0, 0, 9, 0), 0);
        Check.due("one point", held(9, 9), 0);
        Check.due("a loop's first and last are not held", held(0, 0, 9, 0, 0, 9, 0, 0), 4);
        Check.due("six of eight points", held(0, 0, 9, 0, 0, 0, 9, 0, 0, 0, 9, 0, 0, 0, 9, 0), 12);
    }

    private static void fullByEachPart() {
        Check.says("More than 2000 TICKS: FULL.");
        LightLines home = exact(1, 0);
        Check.draw(home, 999, 0);
        Check.draw(home, 999, 0);
        Check.due("999, 1, 1, 999", home.ticks(), 2000);
        Check.draw(home, 999, 0);
        Check.due("one more", home.ticks(), Check.FULL);
        LightLines far = exact(1, 0);
        Check.draw(far, 1000, 0);
        Check.due("1000, 1, 1000", far.ticks(), Check.FULL);
        LightLines waits = exact(1, 5);
        for (int i = 0; i < 8; i++) {
            Check.draw(waits, 956, 0);
        }
        Check.due("956, 8 times 5, 1, 5, and 956", waits.ticks(), 2000);
        Check.due("the last one is at 0, 0", waits.tick(1999, 0), 0);
        waits.rule(1, 4);
        Check.due("less by 16", waits.ticks(), 1984);
        LightLines held = exact(1, 0);
        Check.draw(held, 0, 0, 998, 0, 0, 0);
        Check.due("1, 998, held 2, 998", held.ticks(), 1999);
        LightLines heldMore = exact(1, 0);
        Check.draw(heldMore, 0, 0, 999, 0, 0, 0);
        Check.due("1, 999, held 2, 999", heldMore.ticks(), Check.FULL);
        LightLines wait = exact(1, 4);
        Check.draw(wait, 995, 0);
        Check.due("995, 4, 1, 4, 995", wait.ticks(), 1999);
        wait.rule(1, 5);
        Check.due("995, 5, 1, 5, 995", wait.ticks(), Check.FULL);
    }

    private static void fullOfTwoThousand() {
        Check.says("More than 2000 TICKS: FULL.");
        LightLines x = exact(1, 0);
        Check.draw(x, 999, 0, 0, 0);
        Check.draw(x, 0, 0);
        Check.due("999, 1, 999, 1", x.ticks(), 2000);
        Check.due("the last one is LIT", x.tick(1999, 2), 1);
        Check.due("and lit", x.tick(1999, 5), 1);
        Check.due("the mirrors are there", x.tick(1999, 3), 0);
        Check.due("none behind it", x.tick(2000, 0), Check.NONE);
        Check.due("told LIT", x.all(0), 1001);
        // 100 .. 199 and likewise: each place once on the way back.
        Check.due("a cell", x.burn(5, 0), 100);
        Check.due("the first cell", x.burn(0, 0), 101);
        Check.draw(x, 0, 0);
        Check.due("2001", x.ticks(), Check.FULL);
        for (int what = 0; what < 8; what++) {
            Check.due("tick(0, " + what + ")", x.tick(0, what), Check.FULL);
        }
        for (int what = 0; what < 6; what++) {
            Check.due("all(" + what + ")", x.all(what), Check.FULL);
        }
        Check.due("burn", x.burn(0, 0), Check.FULL);
        Check.due("the plan stands", x.order(2, 0), 2);
        x.rule(0, 2);
        Check.due("500, 1, 500, 1, 1", x.ticks(), 1003);
        Check.due("all again", x.all(0), 503);
        LightLines up = exact(1, 5);
        Check.draw(up, 900, 1000);
        Check.due("1000, 5, 1, 5, 1000", up.ticks(), Check.FULL);
        up.rule(0, 250);
        up.rule(1, 0);
        Check.due("4, 1, 4", up.ticks(), 9);
        Check.due("from 0, 0 again", up.tick(0, 0), 225);
        Check.due("y likewise", up.tick(0, 1), 250);
    }

    private static void fullByThePlan() {
        Check.says("How many TICKS. FULL.");
        LightLines x = exact(1, 0);
        Check.draw(x, 700, 0);
        Check.draw(x, 0, 0);
        Check.draw(x, 700, 0);
        Check.due("700 four times", x.ticks(), Check.FULL);
        Check.due("the least way is 1400", x.best(), 1400);
        Check.due("700 twice", x.ticks(), 1403);
        Check.fill(x, 0, 0, 0, 1, 0, 2, 0);
        Check.due("a plan of 2800", x.plan(0, 0), 2800);
        Check.due("is FULL again", x.all(0), Check.FULL);
        x.best();
        Check.due("BEST is not", x.burn(7, 0), 2);
        Check.draw(x, 0, 0);
        Check.due("a stroke more: as they came", x.tick(0, 0), Check.FULL);
    }

    private static void mirrorsBegin() {
        Check.says("THE MIRRORS begin at 0, 0 without speed.");
        LightLines still = new LightLines();
        Check.draw(still, 0, 0);
        for (int i = 0; i < 3; i++) {
            Check.due("x of " + i, still.tick(i, 3), 0);
            Check.due("y of " + i, still.tick(i, 4), 0);
        }
        LightLines x = new LightLines();
        Check.draw(x, 50, 30);
        // K 8, D 10: 400 by 16 is 25; 240 by 16 is 15.
        Check.due("x at once", x.tick(0, 3), 25);
        Check.due("y at once", x.tick(0, 4), 15);
        // u 25: (200 - 250) by 16 is -3: 22 more. u 15: (120 - 150) by 16 is -1: 14 more.
        Check.due("x then", x.tick(1, 3), 47);
        Check.due("y then", x.tick(1, 4), 29);
    }

    private static void mirrorsAreCut() {
        Check.says("u, the speed, becomes u + ((place told - where it is) K - u D) by 16, cut towards 0");
        LightLines slow = new LightLines();
        slow.rule(0, 1000);
        slow.rule(1, 5);
        slow.rule(2, 1);
        slow.rule(3, 0);
        Check.draw(slow, 15, 16);
        // x: 15 by 16 is 0: it never goes. y: 16 by 16 is 1, then 0 is added each time: 1 a tick; -12 by 16 at the end is 0, too.
        for (int i = 0; i < 13; i++) {
            Check.due("x of " + i, slow.tick(i, 3), 0);
            Check.due("y of " + i, slow.tick(i, 4), i + 1);
        }
        Check.due("ticks", slow.ticks(), 13);
        LightLines damped = exact(1000, 3);
        damped.rule(3, 15);
        Check.draw(damped, 1, 100);
        // x: 16 by 16 is 1; -15 by 16 is 0: u stays 1, at 2; (-16 - 15) by 16 is -1: u 0, at 2; -16 by 16: u -1, at 1.
        int[] mx = {1, 2, 2, 1};
        // y: 100; -1500 by 16 is -93: u 7, at 107; (-112 - 105) by 16 is -13: u -6, at 101; (-16 + 90) by 16 is 4: u -2, at 99.
        int[] my = {100, 107, 101, 99};
        for (int i = 0; i < 4; i++) {
            Check.due("damped x of " + i, damped.tick(i, 3), mx[i]);
            Check.due("damped y of " + i, damped.tick(i, 4), my[i]);
        }
    }

    private static void mirrorsOfRules() {
        Check.says("(K 1 to 16, D 0 to 16; at first 8, 10)");
        LightLines x = new LightLines();
        x.rule(0, 1000);
        Check.draw(x, 800, 160);
        // By 8, 10: (3200 - 4000) by 16 is -50: u 350, at 750. By 1, 0: 50; 750 by 16 is 46: u 96, at 146. By 16, 0: u stays 800.
        // By 1, 16: (750 - 800) by 16 is -3: u 47, at 97.
        int[][] rules = {{8, 10, 400, 750}, {1, 0, 50, 146}, {16, 0, 800, 1600}, {16, 16, 800, 800}, {1, 16, 50, 97}};
        for (int[] r : rules) {
            x.rule(2, r[0]);
            x.rule(3, r[1]);
            Check.due("first by K " + r[0] + ", D " + r[1], x.tick(0, 3), r[2]);
            Check.due("second by K " + r[0] + ", D " + r[1], x.tick(1, 3), r[3]);
        }
    }

    private static void delay() {
        Check.says("what is LIT at a tick is what was told LIT that many ticks ahead (dark ahead of the first)");
        LightLines first = exactSpot(0, 0);
        Check.due("told LIT at the first tick", first.tick(0, 2), 1);
        Check.due("lit at once", first.tick(0, 5), 1);
        first.rule(4, 1);
        Check.due("dark ahead of the first", first.tick(0, 5), 0);
        Check.due("none is lit", first.all(1), 0);
        Check.due("told all the same", first.all(0), 1);
        LightLines x = exact(1000, 5);
        Check.draw(x, 0, 0, 7, 0);
        // 5 dark, 2 LIT, 5 dark, home: ticks 5 and 6 of 13.
        for (int late = 0; late <= 5; late++) {
            x.rule(4, late);
            for (int i = 0; i < 13; i++) {
                Check.due("told " + i, x.tick(i, 2), i == 5 || i == 6 ? 1 : 0);
                Check.due("late by " + late + " at " + i, x.tick(i, 5), i - late == 5 || i - late == 6 ? 1 : 0);
            }
        }
        x.rule(1, 0);
        // Now 2 LIT, home: late by 5 nothing comes within 3 ticks, late by 2 the first one comes at the last.
        Check.due("too late", x.all(1), 0);
        x.rule(4, 2);
        Check.due("just not too late", x.all(1), 1);
        Check.due("it comes at the last tick", x.tick(2, 5), 1);
        Check.due("where the mirrors are then", x.burn(0, 0), 1);
        x.rule(4, 3);
        Check.due("late by all ticks", x.all(1), 0);
    }

    private static void lateAndShut() {
        Check.says("5 whether it is lit (late, and not SHUT), 6 whether it is SHUT");
        LightLines x = exact(1000, 0);
        Check.draw(x, 0, 0, 100, 0);
        x.rule(4, 1);
        // LIT at 0, 0 and 100, 0, dark at 0, 0: late by 1 the second and the third get light.
        x.zone(0, 100, 0, 100, 0);
        int[] lit = {0, 0, 1};
        int[] shut = {0, 1, 0};
        for (int i = 0; i < 3; i++) {
            Check.due("lit " + i, x.tick(i, 5), lit[i]);
            Check.due("SHUT " + i, x.tick(i, 6), shut[i]);
        }
        Check.due("one burns where the light comes", x.burn(0, 0), 1);
        Check.due("none where it is SHUT", x.burn(1, 0), 0);
        x.zone(0, 0, 0, 0, 0);
        Check.due("the others are SHUT", x.all(2), 2);
        Check.due("one is lit", x.all(1), 1);
        Check.due("that at 100, 0", x.burn(1, 0), 1);
    }

    private static void zonesHaveRims() {
        Check.says("each a rectangle from x0, y0 to x1, y1 (with its rims), or none: a tick at which THE MIRRORS are in a ZONE is SHUT: "
            + "it is not lit.");
        int[] xs = {399, 400, 600, 601};
        int[] ys = {299, 300, 500, 501};
        for (int i = 0; i < 4; i++) {
            for (int k = 0; k < 4; k++) {
                LightLines x = exactSpot(xs[i], ys[k]);
                x.zone(2, 400, 300, 600, 500);
                int inside = (i == 1 || i == 2) && (k == 1 || k == 2) ? 1 : 0;
                String place = xs[i] + ", " + ys[k];
                Check.due("SHUT, dark at " + place, x.tick(0, 6), inside);
                Check.due("SHUT at " + place, x.tick(1, 6), inside);
                Check.due("lit at " + place, x.tick(1, 5), 1 - inside);
                Check.due("told LIT at " + place, x.tick(1, 2), 1);
                Check.due("SHUT of all", x.all(2), 2 * inside);
                Check.due("lit of all", x.all(1), 1 - inside);
                Check.due("burn", x.burn(xs[i] / 100, ys[k] / 100), 1 - inside);
            }
        }
    }

    private static void zonesAtTheEnds() {
        Check.says("A ZONE (x0 to x1, y0 to y1; 0 to 1000, x0 not above x1, y0 not above y1): 1.");
        LightLines x = exactSpot(1000, 1000);
        Check.due("one place at the far end", x.zone(0, 1000, 1000, 1000, 1000), 1);
        Check.due("is shut", x.all(2), 2);
        Check.due("one place at the near end", x.zone(0, 0, 0, 0, 0), 1);
        Check.due("is in its place", x.all(2), 1);
        Check.due("all there is", x.zone(3, 0, 0, 1000, 1000), 1);
        Check.due("each tick is shut", x.all(2), 3);
        Check.due("a rim of no width", x.zone(3, 1000, 0, 1000, 1000), 1);
        Check.due("two are shut by it", x.all(2), 3);
        x.open(0);
        Check.due("and no more", x.all(2), 2);
        LightLines beyond = new LightLines();
        beyondByOne(beyond, false);
        beyond.zone(0, 0, 0, 1000, 1000);
        Check.due("1001 is in no zone", beyond.tick(3, 6), 0);
        Check.due("it is lit", beyond.tick(3, 5), 1);
        LightLines below = new LightLines();
        belowByOne(below, true);
        below.zone(0, 0, 0, 1000, 1000);
        Check.due("-1 is in no zone", below.tick(3, 6), 0);
        Check.due("it is lit, too", below.tick(3, 5), 1);
        Check.due("13 is", below.tick(2, 6), 1);
    }

    private static void zonesOverlap() {
        Check.says("ZONES 0 .. 3");
        LightLines x = exactSpot(500, 500);
        for (int zone = 0; zone < 4; zone++) {
            Check.due("zone " + zone, x.zone(zone, 500 - zone, 400, 500, 600), 1);
            Check.due("each tick is shut once", x.all(2), 2);
        }
        Check.due("four", x.count(4), 4);
        for (int zone = 0; zone < 4; zone++) {
            Check.due("shut still", x.tick(1, 6), 1);
            Check.due("open " + zone, x.open(zone), 1);
        }
        Check.due("open now", x.tick(1, 6), 0);
        Check.due("lit now", x.all(1), 1);
    }

    private static void zoneRefused() {
        Check.says("A ZONE (x0 to x1, y0 to y1; 0 to 1000, x0 not above x1, y0 not above y1): 1. BAD.");
        LightLines x = new LightLines();
        int[][] bad = {{-1, 0, 0, 1, 1}, {4, 0, 0, 1, 1}, {LOW, 0, 0, 1, 1}, {HIGH, 0, 0, 1, 1}, {0, -1, 0, 1, 1}, {0, 0, -1, 1, 1},
            {0, 0, 0, -1, 1}, {0, 0, 0, 1, -1}, {0, 1001, 0, 1001, 1}, {0, 0, 1001, 1, 1001}, {0, 0, 0, 1001, 1}, {0, 0, 0, 1, 1001},
            {0, 1, 0, 0, 1}, {0, 0, 1, 1, 0}, {0, 1000, 0, 999, 1}, {0, 0, 1000, 1, 999}, {0, LOW, 0, 1, 1}, {0, 0, 0, HIGH, 1},
            {0, HIGH, 0, LOW, 1}, {0, 0, LOW, 1, 1}, {0, 0, 0, 1, HIGH}, {0, -2, -2, -1, -1}};
        for (int[] b : bad) {
            Check.due(java.util.Arrays.toString(b), x.zone(b[0], b[1], b[2], b[3], b[4]), Check.BAD);
        }
        Check.due("none came", x.count(4), 0);
    }

    private static void openRefused() {
        Check.says("A ZONE is none: 1; 0: it was. BAD.");
        LightLines x = new LightLines();
        for (int zone : new int[] {-1, 4, LOW, HIGH}) {
            Check.due("zone " + zone, x.open(zone), Check.BAD);
        }
        x.zone(0, 0, 0, 1, 1);
        x.zone(3, 0, 0, 1, 1);
        int[] was = {1, 0, 0, 1};
        for (int zone = 0; zone < 4; zone++) {
            Check.due("zone " + zone, x.open(zone), was[zone]);
            Check.due("zone " + zone + " again", x.open(zone), 0);
        }
    }

    private static void cellsAreCut() {
        Check.says("by cells of 100 times 100, x by 100 and y by 100, cut, 0 to 10 each");
        int[] places = {0, 99, 100, 199, 899, 900, 999, 1000};
        int[] cells = {0, 0, 1, 1, 8, 9, 9, 10};
        for (int i = 0; i < places.length; i++) {
            for (int k = 0; k < places.length; k++) {
                LightLines x = exactSpot(places[i], places[k]);
                Check.due("cell of " + places[i] + ", " + places[k], x.burn(cells[i], cells[k]), 1);
                Check.due("no other one has more", x.all(4), 1);
                Check.due("the first cell", x.burn(0, 0), cells[i] + cells[k] == 0 ? 1 : 0);
                Check.due("the last cell", x.burn(10, 10), cells[i] + cells[k] == 20 ? 1 : 0);
            }
        }
    }

    /** The only LIT tick is 3, with the mirrors at 1001. */
    private static void beyondByOne(LightLines x, boolean inY) {
        x.rule(0, 500);
        x.rule(2, 16);
        x.rule(3, 15);
        Check.draw(x, inY ? 0 : 1000, inY ? 1000 : 0);
        // 500; 500 by 16 is 31: u 531, at 1031; (-496 - 7965) by 16 is -528: u 3, at 1034; (-544 - 45) by 16 is -36: u -33, at 1001.
    }

    /** LIT are tick 2 with the mirrors at 13, and tick 3 with the mirrors at -1. */
    private static void belowByOne(LightLines x, boolean inY) {
        x.rule(0, 1000);
        x.rule(2, 16);
        x.rule(3, 8);
        Check.draw(x, inY ? 0 : 10, inY ? 10 : 0, 0, 0);
        // 10; -80 by 16 is -5: u 5, at 15; (-80 - 40) by 16 is -7: u -2, at 13; (-208 + 16) by 16 is -12: u -14, at -1.
    }

    private static int burnsOfAll(LightLines x) {
        int sum = 0;
        for (int cell = 0; cell < 121; cell++) {
            sum += x.burn(cell / 11, cell % 11);
        }
        return sum;
    }

    private static void noCells() {
        Check.says("(below 0, above 1000 there is no cell)");
        for (int axis = 0; axis < 2; axis++) {
            LightLines beyond = new LightLines();
            beyondByOne(beyond, axis == 1);
            Check.due("the mirrors are at 1001", beyond.tick(3, 3 + axis), 1001);
            Check.due("lit there", beyond.tick(3, 5), 1);
            Check.due("lit in all", beyond.all(1), 1);
            Check.due("nothing burns", burnsOfAll(beyond), 0);
            Check.due("nor is it the greatest", beyond.all(4), 0);
            beyond.rule(5, 1);
            Check.due("it is SAFE", beyond.all(5), 1);
            LightLines below = new LightLines();
            belowByOne(below, axis == 1);
            Check.due("the mirrors are at -1", below.tick(3, 3 + axis), -1);
            Check.due("lit there, too", below.tick(3, 5), 1);
            Check.due("two are lit in all", below.all(1), 2);
            Check.due("the one at 13 burns", below.burn(0, 0), 1);
            Check.due("alone", burnsOfAll(below), 1);
        }
    }

    private static LightLines litTimes(int n) {
        LightLines x = exact(1, 0);
        Check.draw(x, 0, 0, n - 1, 0);
        return x;
    }

    private static void safe() {
        Check.says("SAFE: none has more than LIMIT (1 to 1000, at first 40)");
        LightLines forty = litTimes(40);
        Check.due("40", forty.all(4), 40);
        Check.due("as much as LIMIT at first", forty.all(5), 1);
        forty.rule(5, 39);
        Check.due("one more than LIMIT", forty.all(5), 0);
        LightLines more = litTimes(41);
        Check.due("41", more.all(4), 41);
        Check.due("more than LIMIT at first", more.all(5), 0);
        more.rule(5, 41);
        Check.due("as much again", more.all(5), 1);
        LightLines one = exactSpot(50, 50);
        one.rule(5, 1);
        Check.due("one of LIMIT 1", one.all(5), 1);
        LightLines two = litTimes(2);
        two.rule(5, 1);
        Check.due("two of LIMIT 1", two.all(5), 0);
        two.zone(0, 1, 0, 1, 0);
        Check.due("one of them is shut", two.all(5), 1);
    }

    /** In the first cell: seven moves of 99 with six corners of 2: 706 ticks; three moves with two corners: 1, 198, last, 4. */
    private static LightLines thousand(int last) {
        LightLines x = exact(1, 0);
        Check.draw(x, 0, 0, 99, 0, 0, 0, 99, 0, 0, 0, 99, 0, 0, 0, 99, 0);
        Check.draw(x, 0, 0, 99, 0, 0, 0, last, 0);
        x.rule(5, 1000);
        return x;
    }

    private static void safeByTheGreatestLimit() {
        Check.says("SAFE: none has more than LIMIT (1 to 1000, at first 40)");
        LightLines just = thousand(91);
        Check.due("706 and 294", just.burn(0, 0), 1000);
        Check.due("as much as LIMIT", just.all(5), 1);
        LightLines more = thousand(92);
        Check.due("706 and 295", more.all(4), 1001);
        Check.due("more than LIMIT can be", more.all(5), 0);
    }

    private static void lag() {
        Check.says("LAG of a tick told LIT: WAY from where it was told to where THE MIRRORS are.");
        LightLines x = new LightLines();
        x.rule(0, 1000);
        x.rule(1, 0);
        x.rule(2, 1);
        x.rule(3, 0);
        Check.draw(x, 15, 8);
        // The mirrors never go: a dark one, a LIT one, a dark one.
        int[] lags = {0, 15, 0};
        for (int i = 0; i < 3; i++) {
            Check.due("LAG " + i, x.tick(i, 7), lags[i]);
        }
        Check.due("the greatest", x.all(3), 15);
        x.zone(0, 0, 0, 1000, 1000);
        Check.due("SHUT it has LAG as well", x.tick(1, 7), 15);
        x.rule(4, 5);
        Check.due("and where light comes late", x.all(3), 15);
        x.rule(2, 16);
        x.rule(3, 16);
        Check.due("none by other rules", x.all(3), 0);
        LightLines y = new LightLines();
        y.rule(2, 1);
        y.rule(3, 0);
        Check.draw(y, 3, 14);
        Check.due("y is greater", y.all(3), 14);
        LightLines beyond = new LightLines();
        beyondByOne(beyond, true);
        Check.due("beyond it is without sign", beyond.tick(3, 7), 1);
        Check.due("no LAG where the mirrors are as told", exactSpot(1000, 1000).all(3), 0);
    }

    private static void tickRefused() {
        Check.says("7 LAG (0 of dark ones). BAD: what; FULL; NONE: there are not so many (i below 0, too).");
        LightLines x = exactSpot(300, 200);
        for (int what = 0; what < 8; what++) {
            for (int i : new int[] {-1, 3, 4, 1999, 2000, LOW, HIGH}) {
                Check.due("tick(" + i + ", " + what + ")", x.tick(i, what), Check.NONE);
            }
        }
        int[] last = {0, 0, 0, 0, 0, 0, 0, 0};
        int[] lit = {300, 200, 1, 300, 200, 1, 0, 0};
        for (int what = 0; what < 8; what++) {
            Check.due("the one that is LIT, " + what, x.tick(1, what), lit[what]);
            Check.due("the last one, " + what, x.tick(2, what), last[what]);
        }
        for (int what : new int[] {-1, 8, LOW, HIGH}) {
            Check.due("what " + what, x.tick(0, what), Check.BAD);
            Check.due("what " + what + " of none", x.tick(-1, what), Check.BAD);
        }
    }

    private static void allRefused() {
        Check.says("Of all TICKS: 0 told LIT, 1 lit, 2 SHUT, 3 the greatest LAG, 4 the greatest BURN, 5 whether it is SAFE. BAD; FULL.");
        LightLines x = new LightLines();
        for (int what : new int[] {-1, 6, LOW, HIGH}) {
            Check.due("all(" + what + ")", x.all(what), Check.BAD);
        }
        LightLines far = exact(1, 0);
        Check.draw(far, 1000, 0);
        Check.due("FULL", far.all(0), Check.FULL);
        Check.due("FULL of SAFE", far.all(5), Check.FULL);
        Check.due("BAD of FULL", far.all(-1), Check.BAD);
    }

    private static void burnRefused() {
        Check.says("BURN of a cell (x, y 0 to 10). BAD; FULL.");
        LightLines x = exactSpot(1000, 0);
        for (int cell : new int[] {-1, 11, LOW, HIGH}) {
            Check.due("x " + cell, x.burn(cell, 0), Check.BAD);
            Check.due("y " + cell, x.burn(0, cell), Check.BAD);
        }
        Check.due("0, 0", x.burn(0, 0), 0);
        Check.due("10, 0", x.burn(10, 0), 1);
        Check.due("0, 10", x.burn(0, 10), 0);
        Check.due("10, 10", x.burn(10, 10), 0);
    }
}
