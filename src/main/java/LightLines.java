import java.util.Arrays;

/** Drawings of light thrown by mirrors that lag; ../shared/DOC.md says what each call promises. */
public final class LightLines {
    public static final int NONE = -1000000, BAD = -1000001, STATE = -1000002, FULL = -1000003;

    private static final int FINDINGS = -1000010, FAULTS = -1000100;
    private static final int NULL = 1, PLACE = 2, KIND = 3, SIZE = 4, STORE = 5;
    private static final int SHEETS = 8, LANES = 3, MOST_ITEMS = 40;
    private static final int MOST_STROKES = 8, MOST_POINTS = 8, FARTHEST = 1000;
    private static final int ANY_STROKE = 0, SPOT = 1, LINE = 2, LOOP = 3;
    private static final int SPEED = 0, WAIT = 1, PULL = 2, DRAG = 3, DELAY = 4, LIMIT = 5;
    private static final int LAST_FRAME = 20000;

    private final Sheet[] sheets = new Sheet[SHEETS];
    private final Strokes strokes = new Strokes();
    private final PlanSearch search = new PlanSearch();
    private final Show show = new Show();
    private final Cues cues = new Cues();
    private final Trace trace = new Trace();
    private int finding;

    public LightLines() {
        for (int i = 0; i < SHEETS; i++) {
            sheets[i] = new Sheet();
        }
    }

    // ---- sheets

    public int sheet(int sheet, int lane, int n) {
        if (!isSheet(sheet) || !isWithin(lane, 0, LANES - 1) || n > MOST_ITEMS) {
            return BAD;
        }
        if (n < 0) {
            return found(SIZE);
        }
        sheets[sheet].lay(lane, n);
        return fine(n);
    }

    public int set(int sheet, int i, int v) {
        if (!isSheet(sheet)) {
            return BAD;
        }
        Sheet to = sheets[sheet];
        if (to.isMissing()) {
            return found(NULL);
        }
        if (!to.has(i, 1)) {
            return found(PLACE);
        }
        return fine(to.put(i, v));
    }

    public int copy(int a, int i, int b, int j, int n) {
        if (!isSheet(a) || !isSheet(b)) {
            return BAD;
        }
        Sheet from = sheets[a];
        Sheet to = sheets[b];
        if (from.isMissing() || to.isMissing()) {
            return found(NULL);
        }
        if (from.lane != to.lane) {
            return found(STORE);
        }
        if (!from.has(i, n) || !to.has(j, n)) {
            return found(PLACE);
        }
        System.arraycopy(from.items, i, to.items, j, n);
        return fine(n);
    }

    public int drop(int sheet) {
        if (!isSheet(sheet)) {
            return BAD;
        }
        Sheet gone = sheets[sheet];
        if (gone.isMissing()) {
            return found(NULL);
        }
        gone.lane = Sheet.MISSING;
        return fine(gone.size);
    }

    // ---- strokes, plans

    public int stroke(int sheet, int i, int n) {
        if (!isSheet(sheet) || !isWithin(n, 1, MOST_POINTS)) {
            return BAD;
        }
        if (strokes.held >= MOST_STROKES) {
            return FULL;
        }
        Sheet from = sheets[sheet];
        if (from.isMissing()) {
            return found(NULL);
        }
        if (!from.has(i, 2 * n)) {
            return found(PLACE);
        }
        if (!from.holdsPlaces(i, n)) {
            return BAD;
        }
        show.pathIsStale();
        return fine(strokes.add(strokeOf(from, i, n)));
    }

    public int point(int stroke, int i, int what) {
        Stroke asked = strokes.at(stroke);
        if (asked == null || !isWithin(i, 0, asked.points() - 1) || !isWithin(what, 0, 1)) {
            return BAD;
        }
        return what == 0 ? asked.xAt(i) : asked.yAt(i);
    }

    public int plan(int sheet, int i) {
        if (!isSheet(sheet)) {
            return BAD;
        }
        if (strokes.held == 0) {
            return STATE;
        }
        Sheet from = sheets[sheet];
        if (from.isMissing()) {
            return found(NULL);
        }
        if (!from.has(i, 2 * strokes.held)) {
            return found(PLACE);
        }
        if (!strokes.isPlan(from, i)) {
            return BAD;
        }
        for (int k = 0; k < strokes.held; k++) {
            strokes.planAt(k, from.item(i + 2 * k), from.item(i + 2 * k + 1));
        }
        show.pathIsStale();
        return fine(strokes.darkWay());
    }

    public int best() {
        if (strokes.held == 0) {
            return STATE;
        }
        search.putBest(strokes);
        show.pathIsStale();
        return strokes.darkWay();
    }

    public int order(int i, int what) {
        if (!isWithin(what, 0, 1)) {
            return BAD;
        }
        if (!isWithin(i, 0, strokes.held - 1)) {
            return NONE;
        }
        return what == 0 ? strokes.order[i] : strokes.directions[i];
    }

    // ---- ticks

    public int rule(int what, int v) {
        if (!isWithin(what, 0, Show.LEAST.length - 1) || !isWithin(v, Show.LEAST[what], Show.MOST[what])) {
            return BAD;
        }
        return show.changeRule(what, v);
    }

    public int zone(int zone, int x0, int y0, int x1, int y1) {
        if (!isZone(zone) || x0 < 0 || x0 > x1 || x1 > FARTHEST || y0 < 0 || y0 > y1 || y1 > FARTHEST) {
            return BAD;
        }
        show.shutZone(zone, x0, y0, x1, y1);
        return 1;
    }

    public int open(int zone) {
        if (!isZone(zone)) {
            return BAD;
        }
        return show.openZone(zone) ? 1 : 0;
    }

    public int ticks() {
        return show.reaches(Show.PATH, strokes) ? show.path.length : FULL;
    }

    public int tick(int i, int what) {
        if (!isWithin(what, 0, 7)) {
            return BAD;
        }
        if (!show.reaches(what < 3 ? Show.PATH : Show.MIRRORS, strokes)) {
            return FULL;
        }
        if (!isWithin(i, 0, show.path.length - 1)) {
            return NONE;
        }
        switch (what) {
            case 0:
                return show.path.x[i];
            case 1:
                return show.path.y[i];
            case 2:
                return show.path.lit[i] ? 1 : 0;
            case 3:
                return show.mirrorX[i];
            case 4:
                return show.mirrorY[i];
            case 5:
                return show.isLit(i) ? 1 : 0;
            case 6:
                return show.isShut(i) ? 1 : 0;
            default:
                return show.lagAt(i);
        }
    }

    public int all(int what) {
        if (!isWithin(what, 0, 5)) {
            return BAD;
        }
        if (!show.reaches(Show.SUMS, strokes)) {
            return FULL;
        }
        switch (what) {
            case 0:
                return show.toldLit;
            case 1:
                return show.seenLit;
            case 2:
                return show.shutTicks;
            case 3:
                return show.greatestLag;
            case 4:
                return show.greatestBurn;
            default:
                return show.greatestBurn <= show.rules[LIMIT] ? 1 : 0;
        }
    }

    public int burn(int x, int y) {
        if (!isWithin(x, 0, Show.CELLS - 1) || !isWithin(y, 0, Show.CELLS - 1)) {
            return BAD;
        }
        return show.reaches(Show.SUMS, strokes) ? show.burns[x][y] : FULL;
    }

    // ---- cues

    public int feed(long w, int n) {
        if (!isWithin(n, 1, 8)) {
            return BAD;
        }
        return cues.takeBytes(w, n) ? cues.length : FULL;
    }

    public int cues() {
        return cues.readTape();
    }

    public int fault() {
        return cues.latestFault;
    }

    public int frame(int f, int what) {
        if (!isWithin(f, 0, LAST_FRAME) || !isWithin(what, 0, 1)) {
            return BAD;
        }
        return what == 0 ? cues.shownAt(f) : cues.levelAt(f);
    }

    // ---- asked

    public int kind(int stroke) {
        Stroke asked = strokes.at(stroke);
        return asked == null ? BAD : asked.kindTold();
    }

    public int as(int stroke, int kind) {
        Stroke asked = strokes.at(stroke);
        if (asked == null || !isWithin(kind, ANY_STROKE, LOOP)) {
            return BAD;
        }
        return asked.isOf(kind) ? fine(asked.points()) : found(KIND);
    }

    public int ask(int stroke, int what) {
        Stroke asked = strokes.at(stroke);
        if (asked == null || !isWithin(what, 0, 1)) {
            return BAD;
        }
        trace.length = 0;
        return what == 0 ? asked.sizeAsked(trace) : asked.markAsked(trace);
    }

    public int trace(int i) {
        return isWithin(i, 0, trace.length - 1) ? trace.numbers[i] : NONE;
    }

    public int count(int what) {
        switch (what) {
            case 0:
                return sheetsHeld();
            case 1:
                return strokes.held;
            case 2:
                return strokes.pointsOfAll();
            case 3:
                return strokes.loops();
            case 4:
                return show.zonesShut();
            case 5:
                return cues.kept;
            case 6:
                return cues.length;
            default:
                return BAD;
        }
    }

    public int status() {
        return finding;
    }

    private int found(int number) {
        finding = number;
        return FINDINGS - number;
    }

    private int fine(int answer) {
        finding = 0;
        return answer;
    }

    private int sheetsHeld() {
        int held = 0;
        for (int i = 0; i < SHEETS; i++) {
            if (!sheets[i].isMissing()) {
                held++;
            }
        }
        return held;
    }

    private static boolean isSheet(int sheet) {
        return isWithin(sheet, 0, SHEETS - 1);
    }

    private static boolean isZone(int zone) {
        return isWithin(zone, 0, Show.ZONES - 1);
    }

    private static boolean isWithin(int v, int least, int most) {
        return v >= least && v <= most;
    }

    private static int way(int x0, int y0, int x1, int y1) {
        return Math.max(Math.abs(x1 - x0), Math.abs(y1 - y0));
    }

    /** The sheet holds n points from item i on: whoever calls has looked. */
    private static Stroke strokeOf(Sheet from, int i, int n) {
        int[] xs = new int[n];
        int[] ys = new int[n];
        for (int k = 0; k < n; k++) {
            xs[k] = from.item(i + 2 * k);
            ys[k] = from.item(i + 2 * k + 1);
        }
        if (n == 1) {
            return new Spot(xs, ys);
        }
        boolean closed = n >= 3 && xs[0] == xs[n - 1] && ys[0] == ys[n - 1];
        return closed ? new Loop(xs, ys) : new Line(xs, ys);
    }

    /** Items of one lane; the row is made once and laid anew for each sheet that comes here. */
    private static final class Sheet {
        static final int MISSING = -1;

        final int[] items = new int[MOST_ITEMS];
        int lane = MISSING;
        int size;

        boolean isMissing() {
            return lane == MISSING;
        }

        void lay(int newLane, int n) {
            Arrays.fill(items, 0);
            lane = newLane;
            size = n;
        }

        /** Subtracts instead of adding, so that no sum of two arguments can wrap around. */
        boolean has(int from, int n) {
            return from >= 0 && n >= 0 && from <= size - n;
        }

        int item(int i) {
            return has(i, 1) ? items[i] : 0;
        }

        int put(int i, int v) {
            if (has(i, 1)) {
                items[i] = narrowed(v);
            }
            return item(i);
        }

        private int narrowed(int v) {
            switch (lane) {
                case 0:
                    return (byte) v;
                case 1:
                    return (short) v;
                default:
                    return v;
            }
        }

        boolean holdsPlaces(int from, int points) {
            for (int k = 0; k < 2 * points; k++) {
                if (!isWithin(item(from + k), 0, FARTHEST)) {
                    return false;
                }
            }
            return true;
        }
    }

    /** What the bodies of an ask leave behind, in the order in which they began. */
    private static final class Trace {
        final int[] numbers = new int[16];
        int length;

        void leave(int number) {
            if (length < numbers.length) {
                numbers[length] = number;
                length++;
            }
        }
    }

    private abstract static class Stroke {
        private final int[] xs;
        private final int[] ys;

        Stroke(int[] xs, int[] ys) {
            this.xs = xs;
            this.ys = ys;
        }

        int points() {
            return xs.length;
        }

        int xAt(int i) {
            return i >= 0 && i < xs.length ? xs[i] : 0;
        }

        int yAt(int i) {
            return i >= 0 && i < ys.length ? ys[i] : 0;
        }

        /** Which point comes i-th when the stroke is gone forward (0) or back (1). */
        int gone(int i, int direction) {
            return direction == 0 ? i : points() - 1 - i;
        }

        int kindTold() {
            if (this instanceof Spot) {
                return SPOT;
            }
            return this instanceof Loop ? LOOP : LINE;
        }

        boolean isOf(int kind) {
            switch (kind) {
                case SPOT:
                    return this instanceof Spot;
                case LINE:
                    return this instanceof Line;
                case LOOP:
                    return this instanceof Loop;
                default:
                    return kind == ANY_STROKE;
            }
        }

        int sizeAsked(Trace trace) {
            trace.leave(10);
            return points();
        }

        int markAsked(Trace trace) {
            trace.leave(20);
            return xAt(0);
        }
    }

    private static final class Spot extends Stroke {
        Spot(int[] xs, int[] ys) {
            super(xs, ys);
        }

        int sizeAsked(Trace trace) {
            trace.leave(13);
            return 0;
        }

        int markAsked(Trace trace) {
            trace.leave(22);
            return super.markAsked(trace) + yAt(0);
        }
    }

    private static class Line extends Stroke {
        Line(int[] xs, int[] ys) {
            super(xs, ys);
        }

        int sizeAsked(Trace trace) {
            trace.leave(11);
            int size = super.sizeAsked(trace);
            for (int i = 1; i < points(); i++) {
                size += way(xAt(i - 1), yAt(i - 1), xAt(i), yAt(i));
            }
            return size;
        }

        int markAsked(Trace trace) {
            trace.leave(21);
            int mark = super.markAsked(trace);
            return mark + sizeAsked(trace);
        }
    }

    private static final class Loop extends Line {
        Loop(int[] xs, int[] ys) {
            super(xs, ys);
        }

        int sizeAsked(Trace trace) {
            trace.leave(12);
            return 2 * super.sizeAsked(trace);
        }
    }

    /** The strokes, and the plan by which they are gone. */
    private static final class Strokes {
        private final Stroke[] strokes = new Stroke[MOST_STROKES];
        final int[] order = new int[MOST_STROKES];
        final int[] directions = new int[MOST_STROKES];
        int held;

        Stroke at(int i) {
            return i >= 0 && i < held ? strokes[i] : null;
        }

        /** A stroke more ends the plan that was told: all are gone as they came. */
        int add(Stroke stroke) {
            if (held >= MOST_STROKES) {
                return FULL;
            }
            strokes[held] = stroke;
            held++;
            for (int i = 0; i < held; i++) {
                planAt(i, i, 0);
            }
            return held - 1;
        }

        void planAt(int i, int stroke, int direction) {
            if (i >= 0 && i < MOST_STROKES) {
                order[i] = stroke;
                directions[i] = direction;
            }
        }

        boolean isPlan(Sheet from, int i) {
            int seen = 0;
            for (int k = 0; k < held; k++) {
                int stroke = from.item(i + 2 * k);
                int direction = from.item(i + 2 * k + 1);
                if (!isWithin(stroke, 0, held - 1) || !isWithin(direction, 0, 1) || (seen >> stroke & 1) != 0) {
                    return false;
                }
                seen |= 1 << stroke;
            }
            return true;
        }

        int darkWay() {
            int sum = 0;
            int x = 0;
            int y = 0;
            for (int i = 0; i < held; i++) {
                Stroke next = at(order[i]);
                if (next != null) {
                    int first = next.gone(0, directions[i]);
                    int last = next.gone(next.points() - 1, directions[i]);
                    sum += way(x, y, next.xAt(first), next.yAt(first));
                    x = next.xAt(last);
                    y = next.yAt(last);
                }
            }
            return sum + way(x, y, 0, 0);
        }

        int pointsOfAll() {
            int sum = 0;
            for (int i = 0; i < held; i++) {
                Stroke stroke = at(i);
                sum += stroke == null ? 0 : stroke.points();
            }
            return sum;
        }

        int loops() {
            int sum = 0;
            for (int i = 0; i < held; i++) {
                sum += at(i) instanceof Loop ? 1 : 0;
            }
            return sum;
        }
    }

    /**
     * The plan of the least dark way. A turn is a stroke and a direction, twice the stroke and the direction:
     * so turns stand in the order in which plans are preferred, and a turn ends where its other direction begins.
     */
    private static final class PlanSearch {
        private static final int TURNS = 2 * MOST_STROKES;

        private final int[] startX = new int[TURNS];
        private final int[] startY = new int[TURNS];
        /** By the set of strokes that are gone and the last turn: the least dark way from there on. */
        private final int[] wayLeft = new int[(1 << MOST_STROKES) * TURNS];
        private int turns;
        /** Strokes never go, so what was searched for as many of them holds still. */
        private int searchedFor;

        void putBest(Strokes strokes) {
            if (searchedFor != strokes.held) {
                takeEnds(strokes);
                fillWaysLeft();
                searchedFor = strokes.held;
            }
            int gone = 0;
            int x = 0;
            int y = 0;
            for (int i = 0; i < strokes.held; i++) {
                int turn = bestTurn(gone, x, y);
                if (turn >= 0 && turn < TURNS) {
                    strokes.planAt(i, turn / 2, turn % 2);
                    gone |= 1 << turn / 2;
                    x = startX[turn ^ 1];
                    y = startY[turn ^ 1];
                }
            }
        }

        private void takeEnds(Strokes strokes) {
            turns = 2 * strokes.held;
            for (int turn = 0; turn < turns && turn < TURNS; turn++) {
                Stroke stroke = strokes.at(turn / 2);
                if (stroke != null) {
                    int first = stroke.gone(0, turn % 2);
                    startX[turn] = stroke.xAt(first);
                    startY[turn] = stroke.yAt(first);
                }
            }
        }

        private void fillWaysLeft() {
            int every = (1 << turns / 2) - 1;
            for (int gone = every; gone > 0; gone--) {
                for (int turn = 0; turn < turns; turn++) {
                    if ((gone >> turn / 2 & 1) != 0) {
                        int x = startX[turn ^ 1];
                        int y = startY[turn ^ 1];
                        int next = bestTurn(gone, x, y);
                        wayLeft[gone * TURNS + turn] = next < 0 ? way(x, y, 0, 0) : wayThrough(gone, x, y, next);
                    }
                }
            }
        }

        /** The first one of the least way among the turns of the strokes that are not gone; -1: all are. */
        private int bestTurn(int gone, int x, int y) {
            int best = -1;
            int least = 0;
            for (int turn = 0; turn < turns; turn++) {
                if ((gone >> turn / 2 & 1) == 0) {
                    int total = wayThrough(gone, x, y, turn);
                    if (best < 0 || total < least) {
                        best = turn;
                        least = total;
                    }
                }
            }
            return best;
        }

        private int wayThrough(int gone, int x, int y, int turn) {
            int then = gone | 1 << turn / 2;
            return way(x, y, startX[turn], startY[turn]) + wayLeft[then * TURNS + turn];
        }
    }

    /** The ticks as they are told: where the mirrors shall be, and whether there is light. */
    private static final class Path {
        static final int MOST_TICKS = 2000;

        final int[] x = new int[MOST_TICKS];
        final int[] y = new int[MOST_TICKS];
        final boolean[] lit = new boolean[MOST_TICKS];
        int length;
        boolean isOver;
        private int atX;
        private int atY;

        void drawAll(Strokes strokes, int speed, int wait) {
            length = 0;
            isOver = false;
            atX = 0;
            atY = 0;
            for (int i = 0; i < strokes.held && !isOver; i++) {
                Stroke next = strokes.at(strokes.order[i]);
                if (next != null) {
                    drawOne(next, strokes.directions[i], speed, wait);
                }
            }
            moveTo(0, 0, speed, false);
        }

        private void drawOne(Stroke stroke, int direction, int speed, int wait) {
            int first = stroke.gone(0, direction);
            moveTo(stroke.xAt(first), stroke.yAt(first), speed, false);
            stay(wait, false);
            stay(1, true);
            for (int i = 1; i < stroke.points(); i++) {
                int next = stroke.gone(i, direction);
                moveTo(stroke.xAt(next), stroke.yAt(next), speed, true);
                if (i < stroke.points() - 1) {
                    stay(holdsAt(stroke, i, direction), true);
                }
            }
            stay(wait, false);
        }

        private static int holdsAt(Stroke stroke, int i, int direction) {
            int before = stroke.gone(i - 1, direction);
            int here = stroke.gone(i, direction);
            int after = stroke.gone(i + 1, direction);
            int ax = stroke.xAt(here) - stroke.xAt(before);
            int ay = stroke.yAt(here) - stroke.yAt(before);
            int bx = stroke.xAt(after) - stroke.xAt(here);
            int by = stroke.yAt(after) - stroke.yAt(here);
            if (ax * bx + ay * by < 0) {
                return 2;
            }
            return ax * by - ay * bx != 0 ? 1 : 0;
        }

        private void moveTo(int toX, int toY, int speed, boolean isLit) {
            int fromX = atX;
            int fromY = atY;
            int w = way(fromX, fromY, toX, toY);
            int steps = speed < 1 ? 0 : (w + speed - 1) / speed;
            for (int k = 1; k <= steps && !isOver; k++) {
                atX = fromX + (toX - fromX) * k / steps;
                atY = fromY + (toY - fromY) * k / steps;
                stay(1, isLit);
            }
        }

        private void stay(int times, boolean isLit) {
            for (int k = 0; k < times && !isOver; k++) {
                if (length < MOST_TICKS) {
                    x[length] = atX;
                    y[length] = atY;
                    lit[length] = isLit;
                    length++;
                } else {
                    isOver = true;
                }
            }
        }
    }

    /**
     * What comes of the path: mirrors, zones, light and burns. It is worked out in stages, each only when it is
     * asked for, and anew only from the stage on that a change touches.
     */
    private static final class Show {
        static final int NOTHING = 0, PATH = 1, MIRRORS = 2, SUMS = 3;
        static final int ZONES = 4, CELLS = 11, CELL_SIDE = 100;
        /** Of SPEED, WAIT, K, D, DELAY, LIMIT. */
        static final int[] LEAST = {1, 0, 1, 0, 0, 1};
        static final int[] MOST = {1000, 5, 16, 16, 5, 1000};

        final int[] rules = {50, 1, 8, 10, 0, 40};
        final Path path = new Path();
        final int[] mirrorX = new int[Path.MOST_TICKS];
        final int[] mirrorY = new int[Path.MOST_TICKS];
        final int[][] burns = new int[CELLS][CELLS];
        int toldLit;
        int seenLit;
        int shutTicks;
        int greatestLag;
        int greatestBurn;
        private final int[][] rims = new int[ZONES][4];
        private final boolean[] isZoneShut = new boolean[ZONES];
        private int stage = NOTHING;

        void pathIsStale() {
            stage = NOTHING;
        }

        private void stageEndsAt(int latest) {
            stage = Math.min(stage, latest);
        }

        int changeRule(int what, int v) {
            if (what < 0 || what >= rules.length) {
                return BAD;
            }
            int was = rules[what];
            rules[what] = v;
            if (what == SPEED || what == WAIT) {
                stageEndsAt(NOTHING);
            } else if (what == PULL || what == DRAG) {
                stageEndsAt(PATH);
            } else if (what == DELAY) {
                stageEndsAt(MIRRORS);
            }
            return was;
        }

        void shutZone(int zone, int x0, int y0, int x1, int y1) {
            if (zone >= 0 && zone < ZONES) {
                rims[zone][0] = x0;
                rims[zone][1] = y0;
                rims[zone][2] = x1;
                rims[zone][3] = y1;
                isZoneShut[zone] = true;
                stageEndsAt(MIRRORS);
            }
        }

        boolean openZone(int zone) {
            boolean was = zone >= 0 && zone < ZONES && isZoneShut[zone];
            if (was) {
                isZoneShut[zone] = false;
                stageEndsAt(MIRRORS);
            }
            return was;
        }

        int zonesShut() {
            int sum = 0;
            for (int i = 0; i < ZONES; i++) {
                sum += isZoneShut[i] ? 1 : 0;
            }
            return sum;
        }

        /** Works out what the stage needs; false: the ticks are too many. */
        boolean reaches(int wanted, Strokes strokes) {
            if (stage < PATH) {
                path.drawAll(strokes, rules[SPEED], rules[WAIT]);
                stage = PATH;
            }
            if (path.isOver) {
                return false;
            }
            if (wanted >= MIRRORS && stage < MIRRORS) {
                follow(path.x, mirrorX);
                follow(path.y, mirrorY);
                stage = MIRRORS;
            }
            if (wanted >= SUMS && stage < SUMS) {
                sumUp();
                stage = SUMS;
            }
            return true;
        }

        private void follow(int[] told, int[] mirror) {
            int at = 0;
            int speed = 0;
            for (int i = 0; i < path.length; i++) {
                speed += ((told[i] - at) * rules[PULL] - speed * rules[DRAG]) / 16;
                at += speed;
                mirror[i] = at;
            }
        }

        boolean isShut(int i) {
            for (int k = 0; k < ZONES; k++) {
                if (isZoneShut[k] && isWithin(mirrorX[i], rims[k][0], rims[k][2])
                        && isWithin(mirrorY[i], rims[k][1], rims[k][3])) {
                    return true;
                }
            }
            return false;
        }

        boolean isLit(int i) {
            return lightComes(i) && !isShut(i);
        }

        private boolean lightComes(int i) {
            int told = i - rules[DELAY];
            return told >= 0 && path.lit[told];
        }

        int lagAt(int i) {
            return path.lit[i] ? way(path.x[i], path.y[i], mirrorX[i], mirrorY[i]) : 0;
        }

        private void sumUp() {
            toldLit = 0;
            seenLit = 0;
            shutTicks = 0;
            greatestLag = 0;
            greatestBurn = 0;
            for (int i = 0; i < CELLS; i++) {
                Arrays.fill(burns[i], 0);
            }
            for (int i = 0; i < path.length; i++) {
                toldLit += path.lit[i] ? 1 : 0;
                greatestLag = Math.max(greatestLag, lagAt(i));
                if (isShut(i)) {
                    shutTicks++;
                } else if (lightComes(i)) {
                    seenLit++;
                    burnAt(mirrorX[i], mirrorY[i]);
                }
            }
        }

        private void burnAt(int x, int y) {
            if (isWithin(x, 0, FARTHEST) && isWithin(y, 0, FARTHEST)) {
                int[] column = burns[x / CELL_SIDE];
                column[y / CELL_SIDE]++;
                greatestBurn = Math.max(greatestBurn, column[y / CELL_SIDE]);
            }
        }
    }

    /** The tape, how it is read, and what the cues read from it tell. */
    private static final class Cues {
        private static final int MOST_BYTES = 300, MOST_CUES = 12;
        private static final int MOST_LETTERS = 6, MOST_FIGURES = 4, MOST_NUMBER = 9999;
        private static final int FULL_LEVEL = 100, SHOWN_ALL = -1, SHOWN_NOTHING = -2;
        private static final int CANNOT_STAND = 1, WRONG_NUMBER = 2, ONE_TOO_MANY = 3;
        private static final int END = 0, NAME = 1, NUMBER = 2, SIGN = 3, NO_TOKEN = 4, BLANK = 5;
        private static final int SHOW = 0, DARK = 1, FADE = 2;
        /** The places of a cue's row. */
        private static final int FRAME = 0, WORD = 1, FIRST = 2, SECOND = 3;

        private final byte[] tape = new byte[MOST_BYTES];
        int length;
        int kept;
        int latestFault;
        private int[][] keptCues = new int[MOST_CUES][4];
        private int[][] readCues = new int[MOST_CUES][4];
        private int read;
        private int token;
        private int tokenStart;
        private int tokenEnd;

        boolean takeBytes(long w, int n) {
            if (n > MOST_BYTES - length) {
                return false;
            }
            for (int k = n - 1; k >= 0; k--) {
                tape[length] = (byte) (w >> 8 * k);
                length++;
            }
            return true;
        }

        /** Reads into rows beside those that are kept, for a fault leaves the kept ones as they are. */
        int readTape() {
            int fault = 0;
            read = 0;
            tokenEnd = 0;
            nextToken();
            for (int i = 0; i <= MOST_CUES && fault == 0 && token != END; i++) {
                fault = readCue();
            }
            length = 0;
            if (fault != 0) {
                latestFault = fault;
                return FAULTS - tokenStart;
            }
            int[][] old = keptCues;
            keptCues = readCues;
            readCues = old;
            kept = read;
            return kept;
        }

        /** Answers a fault, 0 if there is none; with a fault the token that has it is still the current one. */
        private int readCue() {
            if (!isWord("at")) {
                return CANNOT_STAND;
            }
            if (read >= MOST_CUES) {
                return ONE_TOO_MANY;
            }
            int[] cue = readCues[read];
            nextToken();
            int fault = readNumber(cue, FRAME, read == 0 ? 0 : readCues[read - 1][FRAME], MOST_NUMBER);
            if (fault == 0) {
                fault = readDeed(cue);
            }
            if (fault == 0 && token != SIGN) {
                fault = CANNOT_STAND;
            }
            if (fault == 0) {
                read++;
                nextToken();
            }
            return fault;
        }

        private int readDeed(int[] cue) {
            if (isWord("dark")) {
                cue[WORD] = DARK;
                nextToken();
                return 0;
            }
            if (isWord("show")) {
                cue[WORD] = SHOW;
                nextToken();
                return readNumber(cue, FIRST, 0, MOST_NUMBER);
            }
            if (isWord("fade")) {
                cue[WORD] = FADE;
                nextToken();
                int fault = readNumber(cue, FIRST, 0, FULL_LEVEL);
                return fault != 0 ? fault : readNumber(cue, SECOND, 0, MOST_NUMBER);
            }
            return CANNOT_STAND;
        }

        private int readNumber(int[] cue, int place, int least, int most) {
            if (token != NUMBER) {
                return CANNOT_STAND;
            }
            int number = numberOfToken();
            if (!isWithin(number, least, most)) {
                return WRONG_NUMBER;
            }
            cue[place] = number;
            nextToken();
            return 0;
        }

        /** A run ends only where its sort ends: one that is too long is no token as a whole. */
        private void nextToken() {
            int at = tokenEnd;
            while (at < length && sortOf(tape[at]) == BLANK) {
                at++;
            }
            tokenStart = at;
            token = at < length ? sortOf(tape[at]) : END;
            tokenEnd = at < length ? at + 1 : at;
            if (token == NAME || token == NUMBER) {
                while (tokenEnd < length && sortOf(tape[tokenEnd]) == token) {
                    tokenEnd++;
                }
                int most = token == NAME ? MOST_LETTERS : MOST_FIGURES;
                token = tokenEnd - tokenStart > most ? NO_TOKEN : token;
            }
        }

        private static int sortOf(byte b) {
            if (b == 32 || b == 10) {
                return BLANK;
            }
            if (b >= 'a' && b <= 'z') {
                return NAME;
            }
            if (b >= '0' && b <= '9') {
                return NUMBER;
            }
            return b == ';' ? SIGN : NO_TOKEN;
        }

        private int numberOfToken() {
            int number = 0;
            for (int i = tokenStart; i < tokenEnd && i < tape.length; i++) {
                number = 10 * number + tape[i] - '0';
            }
            return number;
        }

        private boolean isWord(String word) {
            if (token != NAME || tokenEnd - tokenStart != word.length()) {
                return false;
            }
            for (int i = 0; i < word.length(); i++) {
                if (tape[tokenStart + i] != word.charAt(i)) {
                    return false;
                }
            }
            return true;
        }

        int shownAt(int frame) {
            int shown = SHOWN_ALL;
            for (int i = 0; i < kept && keptCues[i][FRAME] <= frame; i++) {
                if (keptCues[i][WORD] == SHOW) {
                    shown = keptCues[i][FIRST];
                } else if (keptCues[i][WORD] == DARK) {
                    shown = SHOWN_NOTHING;
                }
            }
            return shown;
        }

        int levelAt(int frame) {
            int from = FULL_LEVEL;
            int to = FULL_LEVEL;
            int start = 0;
            int within = 0;
            for (int i = 0; i < kept && keptCues[i][FRAME] <= frame; i++) {
                int[] cue = keptCues[i];
                if (cue[WORD] == FADE) {
                    from = faded(from, to, cue[FRAME] - start, within);
                    to = cue[FIRST];
                    start = cue[FRAME];
                    within = cue[SECOND];
                }
            }
            return faded(from, to, frame - start, within);
        }

        private static int faded(int from, int to, int gone, int within) {
            return within <= 0 || gone >= within ? to : from + (to - from) * gone / within;
        }
    }
}
