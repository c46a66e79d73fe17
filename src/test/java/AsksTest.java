/** Promises 22 to 27. */
public final class AsksTest {
    public static void main(String[] args) {
        kind();
        as();
        ask();
        trace();
        count();
        Check.end();
    }

    /** 0 SPOT, 1 LINE, 2 LOOP, 3 two equal points, 4 nearly a loop. */
    private static LightLines someStrokes() {
        LightLines x = new LightLines();
        Check.draw(x, 30, 7);
        Check.draw(x, 5, 5, 10, 25);
        Check.draw(x, 4, 1, 14, 1, 14, 31, 4, 1);
        Check.draw(x, 9, 9, 9, 9);
        Check.draw(x, 1, 1, 2, 2, 1, 2);
        return x;
    }

    private static void kind() {
        LightLines x = someStrokes();
        int[] kinds = {1, 2, 3, 2, 2};
        for (int i = 0; i < kinds.length; i++) {
            Check.due("kind of " + i, x.kind(i), kinds[i]);
        }
        Check.due("kind -1", x.kind(-1), Check.BAD);
        Check.due("kind 5", x.kind(5), Check.BAD);
        Check.due("kind 8", x.kind(8), Check.BAD);
        Check.draw(x, 3, 3, 3, 3, 3, 3);
        Check.due("three equal points", x.kind(5), 3);
        Check.draw(x, 3, 3, 5, 3, 4, 3);
        Check.due("only y comes back", x.kind(6), 2);
    }

    private static void as() {
        LightLines x = someStrokes();
        int[] points = {1, 2, 4, 2, 3};
        boolean[][] is = {{true, true, false, false}, {true, false, true, false}, {true, false, true, true},
            {true, false, true, false}, {true, false, true, false}};
        for (int i = 0; i < points.length; i++) {
            for (int kind = 0; kind < 4; kind++) {
                Check.due(i + " as " + kind, x.as(i, kind), is[i][kind] ? points[i] : Check.KIND);
                Check.due("status of it", x.status(), is[i][kind] ? 0 : 3);
            }
        }
        Check.due("as -1", x.as(-1, 0), Check.BAD);
        Check.due("as 5", x.as(5, 0), Check.BAD);
        Check.due("kind -1", x.as(0, -1), Check.BAD);
        Check.due("kind 4", x.as(0, 4), Check.BAD);
    }

    private static void ask() {
        LightLines x = someStrokes();
        Check.due("SIZE of a spot", x.ask(0, 0), 0);
        traceIs(x, 13);
        Check.due("MARK of a spot", x.ask(0, 1), 37);
        traceIs(x, 22, 20);
        Check.due("SIZE of a line", x.ask(1, 0), 2 + 20);
        traceIs(x, 11, 10);
        Check.due("MARK of a line", x.ask(1, 1), 5 + 22);
        traceIs(x, 21, 20, 11, 10);
        Check.due("SIZE of a loop", x.ask(2, 0), 2 * (4 + 10 + 30 + 30));
        traceIs(x, 12, 11, 10);
        Check.due("MARK of a loop", x.ask(2, 1), 4 + 148);
        traceIs(x, 21, 20, 12, 11, 10);
        Check.due("stroke -1", x.ask(-1, 0), Check.BAD);
        Check.due("stroke 5", x.ask(5, 0), Check.BAD);
        Check.due("what -1", x.ask(0, -1), Check.BAD);
        Check.due("what 2", x.ask(0, 2), Check.BAD);
        traceIs(x, 21, 20, 12, 11, 10);
        Check.due("SIZE of equal points", x.ask(3, 0), 2);
    }

    private static void traceIs(LightLines x, int... numbers) {
        for (int i = 0; i < numbers.length; i++) {
            Check.due("trace " + i, x.trace(i), numbers[i]);
        }
        Check.due("behind the trace", x.trace(numbers.length), Check.NONE);
    }

    private static void trace() {
        LightLines x = someStrokes();
        Check.due("nothing asked", x.trace(0), Check.NONE);
        x.ask(2, 1);
        Check.due("-1", x.trace(-1), Check.NONE);
        Check.due("5", x.trace(5), Check.NONE);
        Check.due("16", x.trace(16), Check.NONE);
        Check.due("most", x.trace(Integer.MAX_VALUE), Check.NONE);
        Check.due("asked twice the same", x.trace(4), x.trace(4));
    }

    private static void count() {
        LightLines x = someStrokes();
        x.sheet(0, 0, 0);
        x.zone(3, 0, 0, 0, 0);
        x.zone(1, 0, 0, 1, 1);
        x.zone(1, 0, 0, 2, 2);
        Check.tell(x, "at 1 dark; at 2 dark; at 3 dark;");
        x.cues();
        Check.tell(x, "at");
        int[] due = {2, 5, 12, 1, 2, 3, 2};
        for (int what = 0; what < due.length; what++) {
            Check.due("count(" + what + ")", x.count(what), due[what]);
        }
        Check.due("count(-1)", x.count(-1), Check.BAD);
        Check.due("count(7)", x.count(7), Check.BAD);
        x.drop(0);
        Check.due("a sheet less", x.count(0), 1);
        x.open(3);
        Check.due("a zone less", x.count(4), 1);
        Check.draw(x, 1, 1, 1, 2, 1, 1);
        Check.due("a loop more", x.count(3), 2);
        x.cues();
        Check.due("the tape is empty", x.count(6), 0);
        Check.due("the cues stay", x.count(5), 3);
        LightLines alone = new LightLines();
        Check.draw(alone, 1, 1, 1, 2, 1, 1);
        Check.due("the first one is a loop", alone.count(3), 1);
    }
}
