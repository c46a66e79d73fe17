import java.util.Random;

/** best() against every plan, tried in the order in which plans are preferred. */
public final class PlansModelTest {
    private static int[][] strokes;
    private static int least;
    private static int[] leastPlan;

    public static void main(String[] args) {
        Random random = new Random(7);
        for (int round = 0; round < 400; round++) {
            tryRound(random, 1 + random.nextInt(round < 390 ? 5 : 7), 1 + random.nextInt(6));
        }
        Check.end();
    }

    /** A small range gives many plans of the same way. */
    private static void tryRound(Random random, int n, int range) {
        LightLines x = new LightLines();
        int step = 1000 / range;
        strokes = new int[n][];
        for (int s = 0; s < n; s++) {
            strokes[s] = new int[2 * (1 + random.nextInt(4))];
            for (int i = 0; i < strokes[s].length; i++) {
                strokes[s][i] = random.nextInt(range + 1) * step;
            }
            Check.draw(x, strokes[s]);
        }
        least = Integer.MAX_VALUE;
        goOn(new int[2 * n], 0, 0, 0, 0, 0);
        Check.due("best of " + n, x.best(), least);
        for (int i = 0; i < 2 * n; i++) {
            Check.due("order(" + i / 2 + ", " + i % 2 + ")", x.order(i / 2, i % 2), leastPlan[i]);
        }
        Check.fill(x, 0, leastPlan);
        Check.due("told as a plan", x.plan(0, 0), least);
    }

    private static void goOn(int[] plan, int depth, int gone, int x, int y, int sum) {
        if (2 * depth == plan.length) {
            int whole = sum + Math.max(x, y);
            if (whole < least) {
                least = whole;
                leastPlan = plan.clone();
            }
            return;
        }
        for (int s = 0; s < strokes.length; s++) {
            for (int back = 0; back < 2 && (gone & 1 << s) == 0; back++) {
                int[] p = strokes[s];
                int last = p.length - 2;
                int in = back == 0 ? 0 : last;
                int out = back == 0 ? last : 0;
                plan[2 * depth] = s;
                plan[2 * depth + 1] = back;
                int dark = Math.max(Math.abs(p[in] - x), Math.abs(p[in + 1] - y));
                goOn(plan, depth + 1, gone | 1 << s, p[out], p[out + 1], sum + dark);
            }
        }
    }
}
