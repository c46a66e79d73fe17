import java.util.Map;
import java.util.Random;
import java.util.Set;
import java.util.TreeMap;
import java.util.TreeSet;

/** Runs of all calls, mixed, none longer than the 512 calls of an object: each answer against the second way's. */
public final class SecondWayTest {
    private static final int OBJECTS = 250, CALLS = 512;
    private static final String[] NAMES = {"sheet", "set", "copy", "drop", "stroke", "point", "plan", "best", "order", "rule", "zone",
        "open", "ticks", "tick", "all", "burn", "feed", "cues", "fault", "frame", "kind", "as", "ask", "trace", "count", "status"};
    private static final int[] WILD = {Integer.MIN_VALUE, Integer.MAX_VALUE, -1, 8, 9, 40, 41, 1000, 1001, 20000, 20001, 70000};
    private static final String[] WORDS = {"at ", "show ", "dark", "fade ", ";", " ", "\n", "at 3 ", "at 70 dark;", "fade 0 9;", "12345",
        "letters", "?", "at 9999 ", "101 ", "100 ", "0"};

    /** By call: each refusal that came, and 1 for any answer that is none. */
    private static final Map<String, Set<Integer>> SEEN = new TreeMap<>();

    private final Random random;
    private final LightLines x = new LightLines();
    private final SecondWay second = new SecondWay();
    private int calls;
    private String last = "";

    private SecondWayTest(long seed) {
        random = new Random(seed);
    }

    public static void main(String[] args) {
        for (int seed = 0; seed < OBJECTS; seed++) {
            new SecondWayTest(seed).tryObject(seed);
        }
        allWasSeen();
        Check.end();
    }

    private void tryObject(int seed) {
        int mostStrokes = seed % 10 == 0 ? 8 : 1 + random.nextInt(5);
        while (calls < CALLS - 60) {
            int deed = random.nextInt(20);
            if (deed == 0 && second.strokes.size() < mostStrokes) {
                drawSome();
            } else if (deed == 1 && !second.strokes.isEmpty()) {
                tellPlan();
            } else if (deed == 2) {
                tellCues();
            } else if (deed < 6) {
                call(NAMES[9 + random.nextInt(3)]);
            } else if (deed < 10) {
                call(NAMES[12 + random.nextInt(4)]);
            } else if (random.nextInt(4) > 0 || second.strokes.size() < mostStrokes) {
                call(NAMES[random.nextInt(NAMES.length)]);
            }
        }
    }

    private int below(int n) {
        return random.nextInt(n);
    }

    /** Mostly one of those below n, and often the least or the greatest; seldom just beside them, or wild. */
    private int near(int n) {
        switch (below(24)) {
            case 0: return -1;
            case 1: return n;
            case 2: return WILD[below(WILD.length)];
            case 3: return 0;
            case 4: return n - 1;
            default: return below(Math.max(1, n));
        }
    }

    /** Items beside the stroke's own are at times none that a point could have. */
    private void drawSome() {
        int n = 1 + below(8);
        int lane = below(3);
        int sheet = below(8);
        int from = below(3);
        int most = lane == 0 ? 128 : below(3) == 0 ? 12 : 1001;
        due("sheet", sheet, lane, from + 2 * n + below(2));
        for (int i = 0; i < from; i++) {
            due("set", sheet, i, below(2) == 0 ? -1 : below(most));
        }
        for (int i = from; i < from + 2 * n; i++) {
            due("set", sheet, i, below(60) == 0 ? WILD[below(WILD.length)] : below(most));
        }
        if (n > 2 && below(3) == 0) {
            due("copy", sheet, from, sheet, from + 2 * n - 2, 2);
        }
        if (n > 1 && below(3) == 0) {
            due("copy", sheet, from, sheet, from + 2, 2);
        }
        due("stroke", sheet, from, n);
    }

    private void tellPlan() {
        int n = second.strokes.size();
        int from = below(3);
        int shift = below(n);
        due("sheet", 1, below(3), 2 * n + from);
        for (int i = 0; i < n; i++) {
            due("set", 1, from + 2 * i, below(40) == 0 ? near(n) : (i + shift) % n);
            due("set", 1, from + 2 * i + 1, below(40) == 0 ? near(2) : below(2));
        }
        due("plan", 1, below(10) == 0 ? near(3) : from);
    }

    private void tellCues() {
        StringBuilder text = new StringBuilder();
        int frame = below(20);
        int n = below(5) == 0 ? 11 + below(3) : below(6);
        for (int i = 0; i < n; i++) {
            String[] deeds = {"dark", "show" + near(9999), "fade " + below(102) + " " + below(below(2) == 0 ? 3 : 60)};
            text.append("at").append(frame).append(deeds[below(3)].replace("-", "")).append(";");
            frame = Math.max(0, frame + (below(50) == 0 ? -1 : below(9)));
        }
        if (below(3) == 0) {
            text.insert(below(text.length() + 1), WORDS[below(WORDS.length)]);
        }
        if (below(5) == 0 && text.length() > 0) {
            text.deleteCharAt(below(text.length()));
        }
        for (int i = 0; i < text.length(); i += 8) {
            feed(text.substring(i, Math.min(text.length(), i + 8)));
        }
        due("cues");
        due("fault");
        for (int k = 0; k < 6; k++) {
            due("frame", below(Math.max(1, frame + 30)), 1);
            due("frame", below(Math.max(1, frame + 5)), 0);
        }
    }

    /** A byte ahead of the lowest n belongs to none of them. */
    private void feed(String bytes) {
        long w = random.nextLong();
        for (int k = 0; k < bytes.length(); k++) {
            w = w << 8 | bytes.charAt(k);
        }
        calls++;
        compare("feed", bytes, x.feed(w, bytes.length()), second.feed(w, bytes.length()));
    }

    private void call(String name) {
        int strokes = second.strokes.size();
        switch (name) {
            case "sheet": due(name, near(8), near(3), near(41)); break;
            case "set": due(name, near(8), near(20), below(9) == 0 ? random.nextInt() : below(1200)); break;
            case "copy": due(name, near(8), near(4), near(8), near(4), near(8)); break;
            case "drop": due(name, near(8)); break;
            case "stroke": due(name, near(8), below(3) == 0 ? near(38) : 0, 1 + near(8)); break;
            case "point": due(name, near(strokes), near(4), near(2)); break;
            case "plan": due(name, below(30) == 0 ? 8 : near(8), near(3)); break;
            case "order": due(name, near(strokes), near(2)); break;
            case "rule": tellRule(near(6)); break;
            case "zone": tellZone(); break;
            case "open": due(name, near(4)); break;
            case "tick": due(name, near(Math.max(0, second.ticks())), near(8)); break;
            case "all": due(name, near(6)); break;
            case "burn": due(name, near(below(2) == 0 ? 11 : 3), near(below(2) == 0 ? 11 : 3)); break;
            case "feed": feedSome(); break;
            case "cues": due(name); break;
            case "frame": due(name, near(below(3) == 0 ? 20001 : 100), near(2)); break;
            case "kind": due(name, near(strokes)); break;
            case "as": due(name, near(strokes), near(4)); break;
            case "ask": askSome(strokes); break;
            case "trace": due(name, near(6)); break;
            case "count": due(name, near(7)); break;
            default: due(name); break;
        }
    }

    private void tellRule(int what) {
        int[] most = {1000, 5, 16, 16, 5, 1000};
        int v = what < 0 || what > 5 ? 1 : near(most[what] + 1);
        due("rule", what, what == 0 && below(3) > 0 ? 2 + below(80) : what == 5 && below(2) == 0 ? 1 + below(9) : v);
    }

    private void tellZone() {
        int x0 = near(900);
        int y0 = near(900);
        due("zone", near(4), x0, y0, farRim(x0), farRim(y0));
    }

    private int farRim(int near) {
        int sort = below(16);
        return sort == 0 ? near(1001) : sort == 1 ? 1000 : sort == 2 ? near : near + below(400);
    }

    /** Some whole bytes, or as many as fill the tape, so that it is full at times. */
    private void feedSome() {
        if (below(3) == 0) {
            feed(WORDS[below(WORDS.length)].substring(0, 1));
        } else {
            int times = below(8) == 0 ? 40 : 1;
            for (int k = 0; k < times && calls < CALLS - 20; k++) {
                feed("        ");
            }
            long w = random.nextLong();
            int n = near(9);
            calls++;
            compare("feed", Long.toString(w) + ", " + n, x.feed(w, n), second.feed(w, n));
        }
    }

    private void askSome(int strokes) {
        due("ask", near(strokes), near(2));
        for (int i = 0; i < 6; i++) {
            due("trace", i);
        }
    }

    private void due(String name, int... a) {
        calls++;
        StringBuilder said = new StringBuilder();
        for (int v : a) {
            said.append(said.length() == 0 ? "" : ", ").append(v);
        }
        compare(name, said.toString(), Check.call(x, name, a), Check.call(second, name, a));
    }

    private void compare(String name, String said, int got, int want) {
        String call = name + "(" + said.replace('\n', '|') + ")";
        Check.due(call + " as call " + calls + " behind " + last, got, want);
        if (!name.equals("trace")) {
            last = call;
        }
        boolean isRefusal = want <= Check.NONE && want >= Check.STORE && !name.equals("set") || want == Check.BAD || want == Check.NULL
            || want == Check.PLACE;
        SEEN.computeIfAbsent(name, k -> new TreeSet<>()).add(want <= -1000100 && name.equals("cues") ? -1000100 : isRefusal ? want : 1);
    }

    /** A comparison tells nothing of an answer that never came: all that the document names did come. */
    private static void allWasSeen() {
        seen("sheet", Check.BAD, Check.SIZE);
        seen("set", Check.BAD, Check.NULL, Check.PLACE);
        seen("copy", Check.BAD, Check.NULL, Check.STORE, Check.PLACE);
        seen("drop", Check.BAD, Check.NULL);
        seen("stroke", Check.BAD, Check.FULL, Check.NULL, Check.PLACE);
        seen("plan", Check.BAD, Check.STATE, Check.NULL, Check.PLACE);
        seen("best", Check.STATE);
        seen("order", Check.BAD, Check.NONE);
        seen("tick", Check.BAD, Check.FULL, Check.NONE);
        seen("all", Check.BAD, Check.FULL);
        seen("burn", Check.BAD, Check.FULL);
        seen("feed", Check.BAD, Check.FULL);
        seen("cues", -1000100);
        seen("as", Check.BAD, Check.KIND);
        seen("trace", Check.NONE);
        seen("ticks", Check.FULL);
        for (String name : new String[] {"point", "rule", "zone", "open", "frame", "kind", "ask", "count"}) {
            seen(name, Check.BAD);
        }
        seen("fault");
        seen("status");
    }

    private static void seen(String name, int... refusals) {
        Set<Integer> due = new TreeSet<>(Set.of(1));
        for (int refusal : refusals) {
            due.add(refusal);
        }
        Check.due(name + " has answered " + SEEN.get(name) + " of " + due, due.equals(SEEN.get(name)) ? 1 : 0, 1);
    }
}
