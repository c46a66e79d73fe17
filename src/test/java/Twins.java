import java.util.ArrayList;
import java.util.List;

/** Two objects made alike, of which one gets a call more that is refused: whatever is asked then, they answer the same. */
final class Twins {
    /** A call, or all calls that make an object what it is. */
    interface Call {
        int on(LightLines x);
    }

    private static final int[] LEAST = {1, 0, 1, 0, 0, 1};

    private Twins() {
    }

    static void stayAlike(String name, Call made, Call refused, int want) {
        LightLines untouched = new LightLines();
        LightLines touched = new LightLines();
        made.on(untouched);
        made.on(touched);
        int was = untouched.status();
        Check.due(name, refused.on(touched), want);
        boolean isFinding = want <= Check.NULL && want >= Check.STORE;
        Check.due("status() behind " + name, touched.status(), isFinding ? -1000010 - want : was);
        List<Integer> due = answers(untouched);
        List<Integer> got = answers(touched);
        for (int i = 0; i < due.size(); i++) {
            Check.due("question " + i + " behind " + name, got.get(i), due.get(i));
        }
    }

    /** Questions about every part of an object, few enough for its 512 calls; what ends something comes last. */
    private static List<Integer> answers(LightLines x) {
        List<Integer> all = new ArrayList<>();
        askWhatStands(x, all);
        askTicks(x, all);
        all.add(x.cues());
        all.add(x.fault());
        all.add(x.count(5));
        for (int f = 0; f < 10; f++) {
            all.add(x.frame(f, 0));
            all.add(x.frame(f, 1));
        }
        for (int what = 0; what < LEAST.length; what++) {
            all.add(x.rule(what, LEAST[what]));
        }
        for (int zone = 0; zone < 4; zone++) {
            all.add(x.open(zone));
        }
        askSheets(x, all);
        return all;
    }

    private static void askWhatStands(LightLines x, List<Integer> all) {
        all.add(x.fault());
        for (int i = 0; i < 8; i++) {
            all.add(x.trace(i));
            all.add(x.count(i));
            all.add(x.kind(i));
            all.add(x.order(i, 0));
            all.add(x.order(i, 1));
            all.add(x.frame(i, 0));
            all.add(x.frame(i, 1));
        }
        for (int i = 0; i < 4; i++) {
            for (int stroke = 0; stroke < 3; stroke++) {
                all.add(x.point(stroke, i, 0));
                all.add(x.point(stroke, i, 1));
            }
        }
    }

    private static void askTicks(LightLines x, List<Integer> all) {
        all.add(x.ticks());
        for (int i = 0; i < 40; i += 9) {
            for (int what = 0; what < 8; what++) {
                all.add(x.tick(i, what));
            }
        }
        for (int what = 0; what < 6; what++) {
            all.add(x.all(what));
        }
        for (int cell = 0; cell < 9; cell++) {
            all.add(x.burn(cell % 3, cell / 3));
        }
    }

    /** Items are seen as points, lanes by what becomes of a great number, sizes by drop. */
    private static void askSheets(LightLines x, List<Integer> all) {
        int[][] looks = {{0, 0, 3}, {1, 0, 2}, {2, 0, 1}, {2, 1, 1}, {5, 0, 3}};
        for (int[] look : looks) {
            int stroke = x.stroke(look[0], look[1], look[2]);
            all.add(stroke);
            for (int i = 0; i < look[2]; i++) {
                all.add(x.point(stroke, i, 0));
                all.add(x.point(stroke, i, 1));
            }
        }
        for (int sheet = 0; sheet < 8; sheet++) {
            all.add(x.copy(sheet, 0, 3, 0, 0));
            all.add(x.set(sheet, 0, 70000));
            all.add(x.drop(sheet));
        }
    }
}
