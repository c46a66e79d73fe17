import java.lang.reflect.Array;
import java.util.ArrayList;
import java.util.Arrays;
import java.util.Collections;
import java.util.List;
import java.util.regex.Matcher;
import java.util.regex.Pattern;

/**
 * The document a second time, as plainly as the Java library lets: nothing is kept that can be worked out anew.
 * Sheets are Java's own arrays, so that which FINDING comes first is told by Java and not by the class's own tests.
 */
final class SecondWay {
    private static final int[] LEAST = {1, 0, 1, 0, 0, 1};
    private static final int[] MOST = {1000, 5, 16, 16, 5, 1000};
    /** The nearest KIND that a KIND is, too. */
    private static final int[] IS_TOO = {-1, 0, 0, 2};
    /** By ASK and KIND, 0: none is told for it. */
    private static final int[][] BODIES = {{10, 13, 11, 12}, {20, 22, 21, 0}};
    private static final Pattern TEXT = Pattern.compile("(an(sn|d|fnn);)*");
    private static final Pattern TOKEN = Pattern.compile("[a-z]+|[0-9]+|[^ \n]", Pattern.DOTALL);
    private static final int FRAMES = 20001;

    private final Object[] sheets = new Object[8];
    final List<int[][]> strokes = new ArrayList<>();
    private List<int[]> plan = new ArrayList<>();
    private final int[] rules = {50, 1, 8, 10, 0, 40};
    private final int[][] zones = new int[4][];
    private String tape = "";
    private List<int[]> cues = new ArrayList<>();
    private int fault;
    private final List<Integer> trace = new ArrayList<>();
    private int status;
    private int least;
    private List<int[]> leastPlan;

    private static boolean in(int v, int least, int most) {
        return least <= v && v <= most;
    }

    private interface SheetCall {
        int on();
    }

    /** What the machine throws here, and only here, is a FINDING: the numbers are the document's. */
    private int withFindings(SheetCall call) {
        int number;
        try {
            int answer = call.on();
            if (answer != Check.BAD) {
                status = 0;
            }
            return answer;
        } catch (NullPointerException e) {
            number = 1;
        } catch (IndexOutOfBoundsException e) {
            number = 2;
        } catch (ClassCastException e) {
            number = 3;
        } catch (NegativeArraySizeException e) {
            number = 4;
        } catch (ArrayStoreException e) {
            number = 5;
        }
        status = number;
        return -1000010 - number;
    }

    int sheet(int sheet, int lane, int n) {
        if (!in(sheet, 0, 7) || !in(lane, 0, 2) || n > 40) {
            return Check.BAD;
        }
        return withFindings(() -> {
            sheets[sheet] = lane == 0 ? new byte[n] : lane == 1 ? new short[n] : new int[n];
            return n;
        });
    }

    private int item(int sheet, int i) {
        return ((Number) Array.get(sheets[sheet], i)).intValue();
    }

    int set(int sheet, int i, int v) {
        if (!in(sheet, 0, 7)) {
            return Check.BAD;
        }
        int[] became = new int[1];
        int answer = withFindings(() -> {
            Object to = sheets[sheet];
            if (to instanceof byte[] bytes) {
                bytes[i] = (byte) v;
            } else if (to instanceof short[] shorts) {
                shorts[i] = (short) v;
            } else {
                ((int[]) to)[i] = v;
            }
            became[0] = item(sheet, i);
            return 0;
        });
        return answer == 0 ? became[0] : answer;
    }

    int copy(int a, int i, int b, int j, int n) {
        if (!in(a, 0, 7) || !in(b, 0, 7)) {
            return Check.BAD;
        }
        return withFindings(() -> {
            System.arraycopy(sheets[a], i, sheets[b], j, n);
            return n;
        });
    }

    int drop(int sheet) {
        if (!in(sheet, 0, 7)) {
            return Check.BAD;
        }
        return withFindings(() -> {
            int had = Array.getLength(sheets[sheet]);
            sheets[sheet] = null;
            return had;
        });
    }

    /** All of them are read before one is looked at. */
    private int[] items(int sheet, int i, int n) {
        int[] all = new int[n];
        for (int k = 0; k < n; k++) {
            all[k] = item(sheet, i + k);
        }
        return all;
    }

    int stroke(int sheet, int i, int n) {
        if (!in(sheet, 0, 7) || !in(n, 1, 8)) {
            return Check.BAD;
        }
        if (strokes.size() == 8) {
            return Check.FULL;
        }
        return withFindings(() -> {
            int[] read = items(sheet, i, 2 * n);
            int[][] points = new int[n][];
            for (int k = 0; k < n; k++) {
                points[k] = new int[] {read[2 * k], read[2 * k + 1]};
                if (!in(points[k][0], 0, 1000) || !in(points[k][1], 0, 1000)) {
                    return Check.BAD;
                }
            }
            strokes.add(points);
            plan = new ArrayList<>();
            for (int k = 0; k < strokes.size(); k++) {
                plan.add(new int[] {k, 0});
            }
            return strokes.size() - 1;
        });
    }

    int point(int stroke, int i, int what) {
        if (!in(stroke, 0, strokes.size() - 1) || !in(what, 0, 1) || !in(i, 0, strokes.get(stroke).length - 1)) {
            return Check.BAD;
        }
        return strokes.get(stroke)[i][what];
    }

    int plan(int sheet, int i) {
        if (!in(sheet, 0, 7)) {
            return Check.BAD;
        }
        if (strokes.isEmpty()) {
            return Check.STATE;
        }
        return withFindings(() -> {
            int[] read = items(sheet, i, 2 * strokes.size());
            List<int[]> told = new ArrayList<>();
            List<Integer> numbers = new ArrayList<>();
            List<Integer> due = new ArrayList<>();
            for (int k = 0; k < strokes.size(); k++) {
                told.add(new int[] {read[2 * k], read[2 * k + 1]});
                numbers.add(read[2 * k]);
                due.add(k);
                if (!in(read[2 * k + 1], 0, 1)) {
                    return Check.BAD;
                }
            }
            Collections.sort(numbers);
            if (!numbers.equals(due)) {
                return Check.BAD;
            }
            plan = told;
            return darkWay(told, strokes.size());
        });
    }

    private static int way(int[] p, int[] q) {
        return Math.max(Math.abs(p[0] - q[0]), Math.abs(p[1] - q[1]));
    }

    private int[][] gone(int[] turn) {
        int[][] points = strokes.get(turn[0]).clone();
        if (turn[1] == 1) {
            Collections.reverse(Arrays.asList(points));
        }
        return points;
    }

    /** Of the first n of a plan; back to 0, 0 only behind the last one of all. */
    private int darkWay(List<int[]> turns, int n) {
        int sum = 0;
        int[] at = {0, 0};
        for (int k = 0; k < n; k++) {
            int[][] points = gone(turns.get(k));
            sum += way(at, points[0]);
            at = points[points.length - 1];
        }
        return n == strokes.size() ? sum + way(at, new int[] {0, 0}) : sum;
    }

    int best() {
        if (strokes.isEmpty()) {
            return Check.STATE;
        }
        least = Integer.MAX_VALUE;
        tryPlans(new ArrayList<>());
        plan = leastPlan;
        return least;
    }

    /** In the order in which plans are preferred, so that only a lesser way takes the place of one that was found. */
    private void tryPlans(List<int[]> begun) {
        int sum = darkWay(begun, begun.size());
        if (sum >= least) {
            return;
        }
        if (begun.size() == strokes.size()) {
            least = sum;
            leastPlan = new ArrayList<>(begun);
            return;
        }
        for (int s = 0; s < strokes.size(); s++) {
            int stroke = s;
            if (begun.stream().noneMatch(turn -> turn[0] == stroke)) {
                for (int direction = 0; direction < 2; direction++) {
                    begun.add(new int[] {s, direction});
                    tryPlans(begun);
                    begun.remove(begun.size() - 1);
                }
            }
        }
    }

    int order(int i, int what) {
        if (!in(what, 0, 1)) {
            return Check.BAD;
        }
        return in(i, 0, plan.size() - 1) ? plan.get(i)[what] : Check.NONE;
    }

    int rule(int what, int v) {
        if (!in(what, 0, 5) || !in(v, LEAST[what], MOST[what])) {
            return Check.BAD;
        }
        int was = rules[what];
        rules[what] = v;
        return was;
    }

    int zone(int zone, int x0, int y0, int x1, int y1) {
        if (!in(zone, 0, 3) || !in(x0, 0, 1000) || !in(y0, 0, 1000) || !in(x1, 0, 1000) || !in(y1, 0, 1000) || x0 > x1 || y0 > y1) {
            return Check.BAD;
        }
        zones[zone] = new int[] {x0, y0, x1, y1};
        return 1;
    }

    int open(int zone) {
        if (!in(zone, 0, 3)) {
            return Check.BAD;
        }
        boolean was = zones[zone] != null;
        zones[zone] = null;
        return was ? 1 : 0;
    }

    /** Each x, y and whether it is LIT. */
    private List<int[]> told() {
        List<int[]> told = new ArrayList<>();
        int[] at = {0, 0};
        for (int[] turn : plan) {
            int[][] points = gone(turn);
            move(told, at, points[0], 0);
            stay(told, points[0], rules[1], 0);
            stay(told, points[0], 1, 1);
            for (int i = 1; i < points.length; i++) {
                move(told, points[i - 1], points[i], 1);
                if (i + 1 < points.length) {
                    stay(told, points[i], holds(points[i - 1], points[i], points[i + 1]), 1);
                }
            }
            at = points[points.length - 1];
            stay(told, at, rules[1], 0);
        }
        move(told, at, new int[] {0, 0}, 0);
        return told;
    }

    private void move(List<int[]> told, int[] from, int[] to, int lit) {
        int s = (int) Math.ceil(way(from, to) / (double) rules[0]);
        for (int k = 1; k <= s; k++) {
            told.add(new int[] {from[0] + (to[0] - from[0]) * k / s, from[1] + (to[1] - from[1]) * k / s, lit});
        }
    }

    private static void stay(List<int[]> told, int[] at, int times, int lit) {
        for (int k = 0; k < times; k++) {
            told.add(new int[] {at[0], at[1], lit});
        }
    }

    private static int holds(int[] before, int[] here, int[] after) {
        int ax = here[0] - before[0];
        int ay = here[1] - before[1];
        int bx = after[0] - here[0];
        int by = after[1] - here[1];
        int c = ax * bx + ay * by;
        if (c < 0) {
            return 2;
        }
        return ax * by != ay * bx ? 1 : 0;
    }

    /** Each with the eight answers of tick(). */
    private List<int[]> worked() {
        List<int[]> told = told();
        List<int[]> ticks = new ArrayList<>();
        int[] at = {0, 0};
        int[] u = {0, 0};
        for (int i = 0; i < told.size(); i++) {
            int[] tick = told.get(i);
            for (int axis = 0; axis < 2; axis++) {
                u[axis] = u[axis] + ((tick[axis] - at[axis]) * rules[2] - u[axis] * rules[3]) / 16;
                at[axis] = at[axis] + u[axis];
            }
            int shut = 0;
            for (int[] z : zones) {
                shut |= z != null && in(at[0], z[0], z[2]) && in(at[1], z[1], z[3]) ? 1 : 0;
            }
            int late = i - rules[4] < 0 ? 0 : told.get(i - rules[4])[2];
            ticks.add(new int[] {tick[0], tick[1], tick[2], at[0], at[1], late == 1 && shut == 0 ? 1 : 0, shut,
                tick[2] == 1 ? way(tick, at) : 0});
        }
        return ticks;
    }

    int ticks() {
        int n = told().size();
        return n > 2000 ? Check.FULL : n;
    }

    int tick(int i, int what) {
        if (!in(what, 0, 7)) {
            return Check.BAD;
        }
        List<int[]> ticks = worked();
        if (ticks.size() > 2000) {
            return Check.FULL;
        }
        return in(i, 0, ticks.size() - 1) ? ticks.get(i)[what] : Check.NONE;
    }

    int all(int what) {
        if (!in(what, 0, 5)) {
            return Check.BAD;
        }
        List<int[]> ticks = worked();
        if (ticks.size() > 2000) {
            return Check.FULL;
        }
        int greatest = 0;
        for (int cell = 0; cell < 121 && what > 3; cell++) {
            greatest = Math.max(greatest, burnOf(ticks, cell % 11, cell / 11));
        }
        switch (what) {
            case 0: return ticks.stream().mapToInt(t -> t[2]).sum();
            case 1: return ticks.stream().mapToInt(t -> t[5]).sum();
            case 2: return ticks.stream().mapToInt(t -> t[6]).sum();
            case 3: return ticks.stream().mapToInt(t -> t[7]).max().orElse(0);
            case 4: return greatest;
            default: return greatest > rules[5] ? 0 : 1;
        }
    }

    int burn(int x, int y) {
        if (!in(x, 0, 10) || !in(y, 0, 10)) {
            return Check.BAD;
        }
        List<int[]> ticks = worked();
        if (ticks.size() > 2000) {
            return Check.FULL;
        }
        return burnOf(ticks, x, y);
    }

    private static int burnOf(List<int[]> ticks, int x, int y) {
        return (int) ticks.stream().filter(t -> t[5] == 1 && in(t[3], 100 * x, Math.min(100 * x + 99, 1000))
            && in(t[4], 100 * y, Math.min(100 * y + 99, 1000))).count();
    }

    int feed(long w, int n) {
        if (!in(n, 1, 8)) {
            return Check.BAD;
        }
        if (tape.length() + n > 300) {
            return Check.FULL;
        }
        StringBuilder bytes = new StringBuilder();
        for (int k = 0; k < n; k++) {
            bytes.insert(0, (char) (w & 255));
            w >>>= 8;
        }
        tape += bytes;
        return tape.length();
    }

    /** A token's sort as TEXT has it; one that is none is '?'. */
    private static char sort(String token) {
        if (token.matches("at|show|dark|fade|;")) {
            return token.charAt(0);
        }
        return token.matches("[0-9]{1,4}") ? 'n' : '?';
    }

    /** TEXT tells what can stand where: a beginning of it that matches, or that would if more came. */
    int cues() {
        List<String> tokens = new ArrayList<>();
        List<Integer> places = new ArrayList<>();
        StringBuilder sorts = new StringBuilder();
        Matcher found = TOKEN.matcher(tape);
        while (found.find()) {
            tokens.add(found.group());
            places.add(found.start());
            sorts.append(sort(found.group()));
        }
        places.add(tape.length());
        tape = "";
        List<int[]> read = new ArrayList<>();
        for (int i = 0; i <= tokens.size(); i++) {
            int number = faultAt(i, tokens, sorts.toString(), read);
            if (number != 0) {
                fault = number;
                return -1000100 - places.get(i);
            }
            if (i < tokens.size() && sorts.charAt(i) == 'a') {
                read.add(new int[] {0, 0, 0, 0});
            } else if (i < tokens.size()) {
                keep(read.get(read.size() - 1), i, tokens, sorts.toString());
            }
        }
        cues = read;
        return cues.size();
    }

    private static int faultAt(int i, List<String> tokens, String sorts, List<int[]> read) {
        Matcher text = TEXT.matcher(sorts.substring(0, Math.min(i + 1, sorts.length())));
        if (!text.matches() && (i == tokens.size() || !text.hitEnd())) {
            return 1;
        }
        if (i == tokens.size()) {
            return 0;
        }
        int before = read.size();
        if (sorts.charAt(i) == 'n' && sorts.charAt(i - 1) == 'a' && before > 1
                && Integer.parseInt(tokens.get(i)) < read.get(before - 2)[0]) {
            return 2;
        }
        if (sorts.charAt(i) == 'n' && sorts.charAt(i - 1) == 'f' && Integer.parseInt(tokens.get(i)) > 100) {
            return 2;
        }
        return sorts.charAt(i) == 'a' && before == 12 ? 3 : 0;
    }

    /** Of a cue: frame, sort, the first and the second number. */
    private static void keep(int[] cue, int i, List<String> tokens, String sorts) {
        char sort = sorts.charAt(i);
        if (sort == 's' || sort == 'd' || sort == 'f') {
            cue[1] = sort;
        } else if (sort == 'n') {
            char before = sorts.charAt(i - 1);
            cue[before == 'a' ? 0 : before == 'n' ? 3 : 2] = Integer.parseInt(tokens.get(i));
        }
    }

    int fault() {
        return fault;
    }

    /** All frames are painted cue by cue, a later one over an earlier one. */
    int frame(int f, int what) {
        if (!in(f, 0, FRAMES - 1) || !in(what, 0, 1)) {
            return Check.BAD;
        }
        int[] painted = new int[FRAMES];
        Arrays.fill(painted, what == 0 ? -1 : 100);
        for (int[] cue : cues) {
            if (what == 0 && cue[1] != 'f') {
                Arrays.fill(painted, cue[0], FRAMES, cue[1] == 's' ? cue[2] : -2);
            } else if (what == 1 && cue[1] == 'f') {
                int was = painted[cue[0]];
                for (int k = cue[0]; k < FRAMES; k++) {
                    painted[k] = k < cue[0] + cue[3] ? was + (cue[2] - was) * (k - cue[0]) / cue[3] : cue[2];
                }
            }
        }
        return painted[f];
    }

    int kind(int stroke) {
        if (!in(stroke, 0, strokes.size() - 1)) {
            return Check.BAD;
        }
        int[][] p = strokes.get(stroke);
        if (p.length == 1) {
            return 1;
        }
        return p.length > 2 && Arrays.equals(p[0], p[p.length - 1]) ? 3 : 2;
    }

    int as(int stroke, int kind) {
        if (!in(stroke, 0, strokes.size() - 1) || !in(kind, 0, 3)) {
            return Check.BAD;
        }
        return withFindings(() -> {
            for (int is = kind(stroke); is >= 0; is = IS_TOO[is]) {
                if (is == kind) {
                    return strokes.get(stroke).length;
                }
            }
            throw new ClassCastException();
        });
    }

    int ask(int stroke, int what) {
        if (!in(stroke, 0, strokes.size() - 1) || !in(what, 0, 1)) {
            return Check.BAD;
        }
        trace.clear();
        return asked(stroke, what);
    }

    private int asked(int stroke, int what) {
        int kind = kind(stroke);
        while (BODIES[what][kind] == 0) {
            kind = IS_TOO[kind];
        }
        return body(stroke, BODIES[what][kind]);
    }

    private int body(int stroke, int number) {
        int[][] p = strokes.get(stroke);
        trace.add(number);
        int sum = 0;
        switch (number) {
            case 10: return p.length;
            case 11:
                sum = body(stroke, 10);
                for (int i = 0; i + 1 < p.length; i++) {
                    sum += way(p[i], p[i + 1]);
                }
                return sum;
            case 12: return 2 * body(stroke, 11);
            case 13: return 0;
            case 20: return p[0][0];
            case 21:
                sum = body(stroke, 20);
                return sum + asked(stroke, 0);
            default: return body(stroke, 20) + p[0][1];
        }
    }

    int trace(int i) {
        return in(i, 0, Math.min(16, trace.size()) - 1) ? trace.get(i) : Check.NONE;
    }

    int count(int what) {
        int sum = 0;
        switch (what) {
            case 0:
                for (Object sheet : sheets) {
                    sum += sheet == null ? 0 : 1;
                }
                return sum;
            case 1: return strokes.size();
            case 2: return strokes.stream().mapToInt(p -> p.length).sum();
            case 3:
                for (int i = 0; i < strokes.size(); i++) {
                    sum += kind(i) == 3 ? 1 : 0;
                }
                return sum;
            case 4:
                for (int[] z : zones) {
                    sum += z == null ? 0 : 1;
                }
                return sum;
            case 5: return cues.size();
            case 6: return tape.length();
            default: return Check.BAD;
        }
    }

    int status() {
        return status;
    }
}
