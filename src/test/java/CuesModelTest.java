import java.util.ArrayList;
import java.util.List;
import java.util.Random;
import java.util.regex.Matcher;
import java.util.regex.Pattern;

/** Texts, right and nearly right, against a second reader; frames against a second way to follow the fades. */
public final class CuesModelTest {
    private static final Pattern TOKEN = Pattern.compile("[a-z]+|[0-9]+|[^ \n]");
    private static final String[] PARTS = {"at", "show", "dark", "fade", ";", "0", "7", "100", "101", "99999", "atlarge", "#"};

    private final Random random = new Random(11);
    private LightLines x = new LightLines();
    private List<int[]> cues = new ArrayList<>();
    private int fault;

    public static void main(String[] args) {
        CuesModelTest test = new CuesModelTest();
        for (int round = 0; round < 4000; round++) {
            test.tryText(test.someText());
            // A text takes 38 calls to tell and 64 to ask at most: five of them stay within an object's 512 calls.
            if (round % 5 == 4) {
                test.x = new LightLines();
                test.cues = new ArrayList<>();
                test.fault = 0;
            }
        }
        Check.end();
    }

    private String blanks(boolean needed) {
        return random.nextInt(3) > 0 ? needed ? " " : "" : " \n  ".substring(random.nextInt(3));
    }

    private String someText() {
        StringBuilder text = new StringBuilder(blanks(false));
        int n = random.nextInt(6) == 0 ? 11 + random.nextInt(4) : random.nextInt(7);
        int frame = random.nextInt(4);
        for (int i = 0; i < n; i++) {
            text.append("at").append(blanks(false)).append(frame).append(blanks(false));
            frame += random.nextInt(30) == 0 ? -1 : random.nextInt(5);
            frame = Math.max(frame, 0);
            int deed = random.nextInt(4);
            if (deed == 0) {
                text.append("dark");
            } else if (deed == 1) {
                text.append("show").append(blanks(false)).append(random.nextInt(10));
            } else {
                text.append("fade").append(blanks(false)).append(random.nextInt(102)).append(" ").append(random.nextInt(9));
            }
            text.append(blanks(false)).append(";").append(blanks(false));
        }
        if (random.nextInt(3) == 0 && text.length() > 0) {
            int at = random.nextInt(text.length());
            String part = random.nextInt(3) == 0 ? "" : PARTS[random.nextInt(PARTS.length)];
            text.replace(at, Math.min(text.length(), at + random.nextInt(4)), part);
        }
        return text.length() > 300 ? text.substring(0, 300) : text.toString();
    }

    private void tryText(String text) {
        Check.tell(x, text);
        Check.due("on the tape", x.count(6), text.length());
        long due = secondReader(text);
        Check.due("'" + text + "'", x.cues(), due);
        Check.due("fault()", x.fault(), fault);
        Check.due("how many", x.count(5), cues.size());
        for (int f = 0; f < 30; f += 1 + random.nextInt(3)) {
            Check.due("'" + text + "' shown at " + f, x.frame(f, 0), shownAt(f));
            Check.due("'" + text + "' LEVEL at " + f, x.frame(f, 1), levelAt(f, cues.size()));
        }
    }

    /** Walks over a list of all tokens, with the end as the last one. */
    private long secondReader(String text) {
        List<String> tokens = new ArrayList<>();
        List<Integer> places = new ArrayList<>();
        Matcher m = TOKEN.matcher(text);
        while (m.find()) {
            tokens.add(m.group());
            places.add(m.start());
        }
        tokens.add("");
        places.add(text.length());
        List<int[]> read = new ArrayList<>();
        String wanted = "at";
        int[] cue = null;
        for (int i = 0; i < tokens.size(); i++) {
            String t = tokens.get(i);
            if (t.isEmpty() && wanted.equals("at")) {
                cues = read;
                return cues.size();
            }
            int found = faultOf(t, wanted, read);
            if (found != 0) {
                fault = found;
                return -1000100 - places.get(i);
            }
            int value = t.matches("[0-9]+") ? Integer.parseInt(t) : 0;
            switch (wanted) {
                case "at": cue = new int[4]; wanted = "frame"; break;
                case "frame": cue[0] = value; wanted = "deed"; break;
                case "deed": cue[1] = t.charAt(0); wanted = t.equals("dark") ? ";" : t.equals("show") ? "stroke" : "level"; break;
                case "stroke": cue[2] = value; wanted = ";"; break;
                case "level": cue[2] = value; wanted = "span"; break;
                case "span": cue[3] = value; wanted = ";"; break;
                default: read.add(cue); wanted = "at"; break;
            }
        }
        return 0;
    }

    private static int faultOf(String t, String wanted, List<int[]> read) {
        boolean isNumber = t.matches("[0-9]{1,4}");
        switch (wanted) {
            case "at":
                return !t.equals("at") ? 1 : read.size() == 12 ? 3 : 0;
            case "deed":
                return t.matches("show|dark|fade") ? 0 : 1;
            case ";":
                return t.equals(";") ? 0 : 1;
            case "frame":
                return !isNumber ? 1 : !read.isEmpty() && Integer.parseInt(t) < read.get(read.size() - 1)[0] ? 2 : 0;
            case "level":
                return !isNumber ? 1 : Integer.parseInt(t) > 100 ? 2 : 0;
            default:
                return isNumber ? 0 : 1;
        }
    }

    private int shownAt(int f) {
        for (int i = cues.size() - 1; i >= 0; i--) {
            int[] c = cues.get(i);
            if (c[0] <= f && c[1] != 'f') {
                return c[1] == 'd' ? -2 : c[2];
            }
        }
        return -1;
    }

    /** The LEVEL at f by the first n cues: the last fade that has begun, from what the ones ahead of it tell there. */
    private int levelAt(int f, int n) {
        for (int i = n - 1; i >= 0; i--) {
            int[] c = cues.get(i);
            if (c[1] == 'f' && c[0] <= f) {
                int was = levelAt(c[0], i);
                return f >= c[0] + c[3] ? c[2] : was + (c[2] - was) * (f - c[0]) / c[3];
            }
        }
        return 100;
    }
}
