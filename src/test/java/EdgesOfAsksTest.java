/** Edges of promises 22 to 26, and of 27 for as(): each method is about the words that it quotes. */
public final class EdgesOfAsksTest {
    private static final int LOW = Integer.MIN_VALUE, HIGH = Integer.MAX_VALUE;

    public static void main(String[] args) {
        kindsByPoints();
        kindRefused();
        askedAsTold();
        asOneOfAKind();
        asRefused();
        bodiesOfSize();
        bodiesOfMark();
        greatestSizes();
        askRefused();
        traceIsEmptyAhead();
        traceRefused();
        countsOfNone();
        countsOfTheMost();
        countsGoDown();
        countRefused();
        Check.end();
    }

    private static int kindOf(int... points) {
        LightLines x = new LightLines();
        Check.draw(x, points);
        return x.kind(0);
    }

    private static void kindsByPoints() {
        Check.says("1 SPOT, a STROKE: one POINT; 2 LINE, a STROKE: two POINTS or more; 3 LOOP, a LINE: three POINTS or more, "
            + "the last one the same as the first.");
        Check.due("one point", kindOf(0, 0), 1);
        Check.due("two points", kindOf(0, 0, 1, 0), 2);
        Check.due("two points, the same", kindOf(6, 7, 6, 7), 2);
        Check.due("three points", kindOf(0, 0, 1, 0, 1, 1), 2);
        Check.due("three points, back at the first", kindOf(0, 0, 1, 0, 0, 0), 3);
        Check.due("three points, all the same", kindOf(6, 7, 6, 7, 6, 7), 3);
        Check.due("only x is back", kindOf(6, 7, 9, 9, 6, 8), 2);
        Check.due("only y is back", kindOf(6, 7, 9, 9, 7, 7), 2);
        Check.due("x and y are turned", kindOf(6, 7, 9, 9, 7, 6), 2);
        Check.due("back at the second", kindOf(0, 0, 6, 7, 9, 9, 6, 7), 2);
        Check.due("back at the first ahead of the last", kindOf(6, 7, 9, 9, 6, 7, 1, 1), 2);
        Check.due("eight points", kindOf(0, 0, 1, 1, 2, 2, 3, 3, 4, 4, 5, 5, 6, 6, 7, 7), 2);
        Check.due("eight points, back at the first", kindOf(1000, 1000, 1, 1, 2, 2, 3, 3, 4, 4, 5, 5, 6, 6, 1000, 1000), 3);
    }

    private static void kindRefused() {
        Check.says("The KIND of a STROKE, as it is told (1, 2, 3). BAD.");
        LightLines x = new LightLines();
        Check.due("no stroke yet", x.kind(0), Check.BAD);
        for (int i = 0; i < 8; i++) {
            Check.draw(x, 1, 1);
            Check.due("it is there", x.kind(i), 1);
            Check.due("the next one is not", x.kind(i + 1), Check.BAD);
        }
        for (int stroke : new int[] {-1, 8, LOW, HIGH}) {
            Check.due("kind of " + stroke, x.kind(stroke), Check.BAD);
        }
    }

    private static void askedAsTold() {
        Check.says("It is told as the first that fits of SPOT, LOOP, LINE: by this it is asked.");
        LightLines x = new LightLines();
        Check.draw(x, 2, 2, 2, 2, 2, 2);
        Check.due("LOOP and LINE fit", x.kind(0), 3);
        Check.due("it is asked as LOOP", x.ask(0, 0), 6);
        Check.due("taken as LINE", x.as(0, 2), 3);
        Check.due("it is asked as LOOP still", x.ask(0, 0), 6);
        Check.due("taken as STROKE", x.as(0, 0), 3);
        Check.due("nor by what is lent", x.ask(0, 0), 6);
        Check.says("(Of an ask the BODY told for the KIND begins, else that of the nearest KIND that it is, too, "
            + "else the one that is lent;");
        Check.due("no MARK of LOOPS: that of LINES", x.ask(0, 1) + x.trace(0), 8 + 21);
        Check.due("SIZE of LOOPS", x.ask(0, 0) + x.trace(0), 6 + 12);
    }

    private static LightLines oneOfEach() {
        LightLines x = new LightLines();
        Check.draw(x, 30, 7);
        Check.draw(x, 5, 5, 10, 25);
        Check.draw(x, 4, 1, 14, 1, 14, 31, 4, 1);
        return x;
    }

    private static void asOneOfAKind() {
        Check.says("A STROKE is taken as one of a KIND (0 .. 3): its POINTS. BAD; KIND: it is not that, too.");
        LightLines x = oneOfEach();
        int[] points = {1, 2, 4};
        boolean[][] is = {{true, true, false, false}, {true, false, true, false}, {true, false, true, true}};
        for (int stroke = 0; stroke < 3; stroke++) {
            for (int kind = 0; kind < 4; kind++) {
                x.drop(0);
                Check.due(stroke + " as " + kind, x.as(stroke, kind), is[stroke][kind] ? points[stroke] : Check.KIND);
                Check.due("its finding", x.status(), is[stroke][kind] ? 0 : 3);
            }
        }
        Check.draw(x, 3, 3, 3, 3);
        Check.due("two points, the same, as LOOP", x.as(3, 3), Check.KIND);
        Check.draw(x, 0, 0, 0, 0, 0, 0, 0, 0, 0, 0, 0, 0, 0, 0, 0, 0);
        Check.due("eight points as LOOP", x.as(4, 3), 8);
        Check.due("eight points as LINE", x.as(4, 2), 8);
        Check.due("eight points as STROKE", x.as(4, 0), 8);
        Check.due("it is told as what it is still", x.kind(4), 3);
    }

    private static void asRefused() {
        Check.says("Of the latest call with a SHEET, or as(), that was not BAD, STATE, FULL");
        LightLines x = oneOfEach();
        x.as(0, 2);
        int[][] bad = {{-1, 0}, {3, 0}, {8, 0}, {LOW, 0}, {HIGH, 0}, {0, -1}, {0, 4}, {0, LOW}, {0, HIGH}};
        for (int[] b : bad) {
            Check.due("as(" + b[0] + ", " + b[1] + ")", x.as(b[0], b[1]), Check.BAD);
            Check.due("the finding stays", x.status(), 3);
        }
        x.as(0, 1);
        Check.due("none", x.as(7, 0) + x.status(), Check.BAD);
    }

    /** The trace is these numbers, and no more. */
    private static void traceIs(LightLines x, int... numbers) {
        for (int i = 0; i < 17; i++) {
            Check.due("trace(" + i + ")", x.trace(i), i < numbers.length ? numbers[i] : Check.NONE);
        }
    }

    private static void bodiesOfSize() {
        Check.says("0 SIZE: 10 lent to all STROKES: how many POINTS. 11 of LINES: what 10 gives, and the WAYS from POINT to POINT, added. "
            + "12 of LOOPS: twice what 11 gives (asked once). 13 of SPOTS: 0.");
        LightLines x = oneOfEach();
        Check.due("a SPOT", x.ask(0, 0), 0);
        traceIs(x, 13);
        Check.due("a LINE", x.ask(1, 0), 22);
        traceIs(x, 11, 10);
        Check.due("a LOOP", x.ask(2, 0), 148);
        traceIs(x, 12, 11, 10);
        Check.draw(x, 9, 9, 9, 9);
        Check.due("a LINE of no way", x.ask(3, 0), 2);
        traceIs(x, 11, 10);
        Check.draw(x, 9, 9, 9, 9, 9, 9);
        Check.due("a LOOP of no way", x.ask(4, 0), 6);
        traceIs(x, 12, 11, 10);
        Check.draw(x, 10, 10, 0, 0, 3, 8);
        Check.due("ways without sign: 10, 8", x.ask(5, 0), 21);
    }

    private static void bodiesOfMark() {
        Check.says("1 MARK: 20 lent to all STROKES: x of the first POINT. 21 of LINES: what 20 gives, and SIZE. "
            + "22 of SPOTS: what 20 gives, and y.");
        LightLines x = oneOfEach();
        Check.due("a SPOT", x.ask(0, 1), 37);
        traceIs(x, 22, 20);
        Check.due("a LINE", x.ask(1, 1), 27);
        traceIs(x, 21, 20, 11, 10);
        Check.says("SIZE within another one is asked of the same STROKE anew.");
        Check.due("a LOOP", x.ask(2, 1), 152);
        traceIs(x, 21, 20, 12, 11, 10);
        Check.draw(x, 0, 0);
        Check.due("a SPOT at 0, 0", x.ask(3, 1), 0);
        Check.fill(x, 0, 2, 1, 1, 1, 0, 1, 3, 1);
        x.plan(0, 0);
        Check.due("gone back the first POINT is the same", x.ask(1, 1), 27);
    }

    private static void greatestSizes() {
        Check.says("11 of LINES: what 10 gives, and the WAYS from POINT to POINT, added. 12 of LOOPS: twice what 11 gives (asked once).");
        LightLines x = new LightLines();
        Check.draw(x, 1000, 1000, 0, 0, 1000, 1000, 0, 0, 1000, 1000, 0, 0, 1000, 1000, 0, 0);
        Check.due("eight points, seven ways", x.ask(0, 0), 7008);
        Check.due("its MARK", x.ask(0, 1), 8008);
        Check.draw(x, 1000, 0, 0, 1000, 1000, 0, 0, 1000, 1000, 0, 0, 1000, 0, 0, 1000, 0);
        Check.due("twice eight points and seven ways", x.ask(1, 0), 14016);
        Check.due("its MARK, too", x.ask(1, 1), 15016);
        Check.draw(x, 1000, 1000);
        Check.due("MARK of a SPOT", x.ask(2, 1), 2000);
    }

    private static void askRefused() {
        Check.says("An ASK (0, 1) of a STROKE. BAD.");
        LightLines none = new LightLines();
        Check.due("no stroke yet", none.ask(0, 0), Check.BAD);
        LightLines x = oneOfEach();
        int[][] bad = {{-1, 0}, {3, 0}, {8, 1}, {LOW, 0}, {HIGH, 1}, {0, -1}, {0, 2}, {0, LOW}, {0, HIGH}, {3, 2}};
        for (int[] b : bad) {
            Check.due("ask(" + b[0] + ", " + b[1] + ")", x.ask(b[0], b[1]), Check.BAD);
            Check.due("no trace of it", x.trace(0), Check.NONE);
        }
    }

    private static void traceIsEmptyAhead() {
        Check.says("THE TRACE is empty ahead of it (where that is refused it stays).");
        LightLines x = oneOfEach();
        x.ask(2, 1);
        traceIs(x, 21, 20, 12, 11, 10);
        x.ask(3, 0);
        x.ask(0, 2);
        traceIs(x, 21, 20, 12, 11, 10);
        x.ask(0, 0);
        traceIs(x, 13);
        Check.says("each of which leaves its number in THE TRACE as it begins (the first 16)");
        for (int i = 0; i < 20; i++) {
            x.ask(2, 1);
        }
        traceIs(x, 21, 20, 12, 11, 10);
        x.kind(0);
        x.as(0, 0);
        x.cues();
        Check.draw(x, 1, 1);
        x.best();
        traceIs(x, 21, 20, 12, 11, 10);
    }

    private static void traceRefused() {
        Check.says("Number i of THE TRACE; NONE.");
        LightLines x = oneOfEach();
        for (int i : new int[] {0, 1, 15, 16, -1, LOW, HIGH}) {
            Check.due("nothing asked: " + i, x.trace(i), Check.NONE);
        }
        x.ask(2, 1);
        Check.due("the first", x.trace(0), 21);
        Check.due("the last", x.trace(4), 10);
        for (int i : new int[] {-1, 5, 15, 16, LOW, HIGH}) {
            Check.due("none: " + i, x.trace(i), Check.NONE);
        }
    }

    private static void countsAre(LightLines x, int... due) {
        for (int what = 0; what < due.length; what++) {
            Check.due("count(" + what + ")", x.count(what), due[what]);
        }
    }

    private static void countsOfNone() {
        Check.says("How many: 0 SHEETS, 1 STROKES, 2 POINTS of all, 3 LOOPS, 4 ZONES, 5 CUES, 6 bytes on the tape.");
        LightLines x = new LightLines();
        countsAre(x, 0, 0, 0, 0, 0, 0, 0);
        x.sheet(3, 0, 0);
        countsAre(x, 1, 0, 0, 0, 0, 0, 0);
        x.feed(32, 1);
        countsAre(x, 1, 0, 0, 0, 0, 0, 1);
        x.zone(3, 0, 0, 0, 0);
        countsAre(x, 1, 0, 0, 0, 1, 0, 1);
    }

    private static void countsOfTheMost() {
        Check.says("How many: 0 SHEETS, 1 STROKES, 2 POINTS of all, 3 LOOPS, 4 ZONES, 5 CUES, 6 bytes on the tape.");
        LightLines x = new LightLines();
        for (int i = 0; i < 8; i++) {
            x.sheet(i, i % 3, 40);
            x.stroke(i, 0, 8);
            x.zone(i % 4, i, i, i, i);
        }
        Check.read(x, "at 1 dark;".repeat(12));
        Check.tell(x, " ".repeat(300));
        countsAre(x, 8, 8, 64, 8, 4, 12, 300);
        x.sheet(8, 0, 1);
        x.stroke(0, 0, 8);
        x.zone(4, 0, 0, 0, 0);
        x.feed(32, 1);
        countsAre(x, 8, 8, 64, 8, 4, 12, 300);
    }

    private static void countsGoDown() {
        Check.says("How many: 0 SHEETS, 1 STROKES, 2 POINTS of all, 3 LOOPS, 4 ZONES, 5 CUES, 6 bytes on the tape.");
        LightLines x = oneOfEach();
        x.zone(0, 0, 0, 0, 0);
        Check.read(x, "at 1 dark;");
        Check.tell(x, "at");
        countsAre(x, 1, 3, 7, 1, 1, 1, 2);
        x.drop(7);
        x.open(0);
        countsAre(x, 0, 3, 7, 1, 0, 1, 2);
        x.cues();
        countsAre(x, 0, 3, 7, 1, 0, 1, 0);
        x.cues();
        countsAre(x, 0, 3, 7, 1, 0, 0, 0);
    }

    private static void countRefused() {
        Check.says("5 CUES, 6 bytes on the tape. BAD.");
        LightLines x = oneOfEach();
        for (int what : new int[] {-1, 7, 8, LOW, HIGH}) {
            Check.due("count(" + what + ")", x.count(what), Check.BAD);
        }
    }
}
