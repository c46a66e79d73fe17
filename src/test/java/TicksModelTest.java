import java.util.ArrayList;
import java.util.Collections;
import java.util.List;
import java.util.Random;

/** Ticks, mirrors, light, zones and burns against a plain second way: lists, long numbers, all worked out each time. */
public final class TicksModelTest {
    private static final int[] LEAST = {1, 0, 1, 0, 0, 1};
    private static final int[] MOST = {1000, 5, 16, 16, 5, 1000};

    private static final int QUESTIONS = 250;

    private final Random random;
    /** Is changed and asked in turn, so that it has to work out anew what a change touches. */
    private final LightLines x = new LightLines();
    /** Is made again after so many questions, by all changes so far: 12 of 18 calls at most, so no object has over 512. */
    private LightLines asked = x;
    private int questions;
    private final List<Twins.Call> changes = new ArrayList<>();
    private final List<List<long[]>> strokes = new ArrayList<>();
    private final List<int[]> plan = new ArrayList<>();
    private final int[] rules = {50, 1, 8, 10, 0, 40};
    private final long[][] zones = new long[4][];
    private final List<long[]> told = new ArrayList<>();
    private final List<long[]> mirrors = new ArrayList<>();

    private TicksModelTest(long seed) {
        random = new Random(seed);
    }

    public static void main(String[] args) {
        for (int seed = 0; seed < 300; seed++) {
            new TicksModelTest(seed).tryRun();
        }
        Check.end();
    }

    private void tryRun() {
        for (int round = 0; round < 12; round++) {
            change(random.nextInt(8));
            workOut();
            compare();
        }
    }

    private void change(int which) {
        if (which < 2 && strokes.size() < 8) {
            addStroke();
        } else if (which == 2 && !strokes.isEmpty()) {
            tellPlan();
        } else if (which == 3 && !strokes.isEmpty()) {
            x.best();
            changes.add(LightLines::best);
            plan.clear();
            for (int i = 0; i < strokes.size(); i++) {
                plan.add(new int[] {x.order(i, 0), x.order(i, 1)});
            }
        } else if (which < 6) {
            int what = random.nextInt(6);
            int v = LEAST[what] + random.nextInt(MOST[what] - LEAST[what] + 1);
            v = what == 5 ? 1 + random.nextInt(10) : what == 0 && random.nextBoolean() ? 1 + random.nextInt(60) : v;
            Check.due("rule", x.rule(what, v), rules[what]);
            int told = v;
            changes.add(again -> again.rule(what, told));
            rules[what] = v;
        } else {
            changeZone(random.nextInt(4));
        }
    }

    private void addStroke() {
        int n = 1 + random.nextInt(5);
        int range = 1 + random.nextInt(1000);
        int[] flat = new int[2 * n];
        List<long[]> points = new ArrayList<>();
        for (int i = 0; i < n; i++) {
            flat[2 * i] = random.nextInt(range + 1);
            flat[2 * i + 1] = random.nextInt(4) == 0 && i > 0 ? flat[2 * i - 1] : random.nextInt(range + 1);
            points.add(new long[] {flat[2 * i], flat[2 * i + 1]});
        }
        Check.due("stroke", Check.draw(x, flat), strokes.size());
        changes.add(again -> Check.draw(again, flat));
        strokes.add(points);
        plan.clear();
        for (int i = 0; i < strokes.size(); i++) {
            plan.add(new int[] {i, 0});
        }
    }

    private void tellPlan() {
        Collections.shuffle(plan, random);
        int[] flat = new int[2 * plan.size()];
        for (int i = 0; i < plan.size(); i++) {
            plan.get(i)[1] = random.nextInt(2);
            flat[2 * i] = plan.get(i)[0];
            flat[2 * i + 1] = plan.get(i)[1];
        }
        Check.due("plan is taken", tell(x, flat) >= 0 ? 1 : 0, 1);
        changes.add(again -> tell(again, flat));
    }

    private static int tell(LightLines to, int[] flat) {
        Check.fill(to, 0, flat);
        return to.plan(0, 0);
    }

    private void changeZone(int zone) {
        if (random.nextInt(3) == 0) {
            Check.due("open", x.open(zone), zones[zone] == null ? 0 : 1);
            changes.add(again -> again.open(zone));
            zones[zone] = null;
        } else {
            int x0 = random.nextInt(900);
            int y0 = random.nextInt(900);
            int x1 = x0 + random.nextInt(100);
            int y1 = y0 + random.nextInt(100);
            zones[zone] = new long[] {x0, y0, x1, y1};
            Check.due("zone", x.zone(zone, x0, y0, x1, y1), 1);
            changes.add(again -> again.zone(zone, x0, y0, x1, y1));
        }
    }

    private void workOut() {
        told.clear();
        mirrors.clear();
        long[] at = {0, 0};
        for (int[] turn : plan) {
            List<long[]> points = new ArrayList<>(strokes.get(turn[0]));
            if (turn[1] == 1) {
                Collections.reverse(points);
            }
            at = move(at, points.get(0), 0);
            rest(at, rules[1], 0);
            rest(at, 1, 1);
            for (int i = 1; i < points.size(); i++) {
                at = move(at, points.get(i), 1);
                if (i + 1 < points.size()) {
                    rest(at, holds(points.get(i - 1), at, points.get(i + 1)), 1);
                }
            }
            rest(at, rules[1], 0);
        }
        move(at, new long[] {0, 0}, 0);
        long[] where = {0, 0};
        long[] u = {0, 0};
        for (long[] tick : told) {
            for (int axis = 0; axis < 2; axis++) {
                u[axis] = u[axis] + ((tick[axis] - where[axis]) * rules[2] - u[axis] * rules[3]) / 16;
                where[axis] += u[axis];
            }
            mirrors.add(where.clone());
        }
    }

    private long[] move(long[] from, long[] to, long lit) {
        long w = way(from, to);
        long s = w / rules[0] + (w % rules[0] == 0 ? 0 : 1);
        for (long k = 1; k <= s; k++) {
            told.add(new long[] {from[0] + (to[0] - from[0]) * k / s, from[1] + (to[1] - from[1]) * k / s, lit});
        }
        return to;
    }

    private void rest(long[] at, int times, long lit) {
        for (int i = 0; i < times; i++) {
            told.add(new long[] {at[0], at[1], lit});
        }
    }

    private static int holds(long[] p, long[] q, long[] r) {
        long dot = (q[0] - p[0]) * (r[0] - q[0]) + (q[1] - p[1]) * (r[1] - q[1]);
        long cross = (q[0] - p[0]) * (r[1] - q[1]) - (q[1] - p[1]) * (r[0] - q[0]);
        return dot < 0 ? 2 : cross != 0 ? 1 : 0;
    }

    private static long way(long[] p, long[] q) {
        return Math.max(Math.abs(p[0] - q[0]), Math.abs(p[1] - q[1]));
    }

    private boolean isShut(long[] at) {
        for (long[] z : zones) {
            if (z != null && at[0] >= z[0] && at[0] <= z[2] && at[1] >= z[1] && at[1] <= z[3]) {
                return true;
            }
        }
        return false;
    }

    private LightLines another() {
        questions++;
        if (questions % QUESTIONS == 1) {
            asked = new LightLines();
            for (Twins.Call change : changes) {
                change.on(asked);
            }
        }
        return asked;
    }

    private void compare() {
        questions = 0;
        if (told.size() > 2000) {
            Check.due("ticks", x.ticks(), Check.FULL);
            Check.due("all", x.all(random.nextInt(6)), Check.FULL);
            return;
        }
        Check.due("ticks", x.ticks(), told.size());
        long[] sums = new long[6];
        long[][] burns = new long[11][11];
        for (int i = 0; i < told.size(); i++) {
            compareTick(i, sums, burns);
        }
        for (int cx = 0; cx < 11; cx++) {
            for (int cy = 0; cy < 11; cy++) {
                sums[4] = Math.max(sums[4], burns[cx][cy]);
                Check.due("burn(" + cx + ", " + cy + ")", another().burn(cx, cy), burns[cx][cy]);
            }
        }
        sums[5] = sums[4] > rules[5] ? 0 : 1;
        for (int what = 0; what < 6; what++) {
            Check.due("all(" + what + ")", x.all(what), sums[what]);
        }
    }

    private void compareTick(int i, long[] sums, long[][] burns) {
        long[] tick = told.get(i);
        long[] at = mirrors.get(i);
        long shut = isShut(at) ? 1 : 0;
        long late = i < rules[4] ? 0 : told.get(i - rules[4])[2];
        long lit = shut == 1 ? 0 : late;
        long lag = tick[2] == 1 ? way(tick, at) : 0;
        long[] due = {tick[0], tick[1], tick[2], at[0], at[1], lit, shut, lag};
        for (int what = 0; what < 8; what++) {
            Check.due("tick(" + i + ", " + what + ")", another().tick(i, what), due[what]);
        }
        sums[0] += tick[2];
        sums[1] += lit;
        sums[2] += shut;
        sums[3] = Math.max(sums[3], lag);
        if (lit == 1 && at[0] >= 0 && at[1] >= 0 && at[0] <= 1000 && at[1] <= 1000) {
            burns[(int) (at[0] / 100)][(int) (at[1] / 100)]++;
        }
    }
}
