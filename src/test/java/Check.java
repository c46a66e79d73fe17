import java.io.IOException;
import java.nio.file.Files;
import java.nio.file.Path;
import java.util.Arrays;

/** What the tests share: counts answers that are not as due, and builds objects in short. */
final class Check {
    static final int NONE = -1000000, BAD = -1000001, STATE = -1000002, FULL = -1000003;
    static final int NULL = -1000011, PLACE = -1000012, KIND = -1000013, SIZE = -1000014, STORE = -1000015;

    private static final Path DOCUMENT = Path.of("../shared/DOC.md");

    private static String document;
    private static String sentence = "";
    private static int wrong;
    private static int asked;

    private Check() {
    }

    static void due(String call, long got, long want) {
        asked++;
        if (got != want) {
            wrong++;
            System.out.println(sentence + call + " answered " + got + ", due is " + want);
        }
    }

    /**
     * The document's words that the next answers are about. Words that the document no longer has are told, but
     * are no wrong answer: whoever reads that shall read the document's new words and the test again.
     */
    static void says(String words) {
        sentence = "'" + words + "': ";
        if (!documentText().isEmpty() && !documentText().contains(words)) {
            System.out.println("note: the document does not say " + sentence);
        }
    }

    private static String documentText() {
        if (document == null) {
            try {
                document = Files.readString(DOCUMENT).replaceAll("\\s+", " ");
            } catch (IOException unread) {
                document = "";
            }
        }
        return document;
    }

    static void end() {
        if (asked == 0) {
            System.out.println("nothing was asked");
        }
        System.exit(wrong == 0 && asked > 0 ? 0 : 1);
    }

    /** A call by its name: the class, and the second way to work it out, have no type in common. */
    static int call(Object of, String name, int... a) {
        Class<?>[] ints = new Class<?>[a.length];
        Arrays.fill(ints, int.class);
        try {
            return (Integer) of.getClass().getDeclaredMethod(name, ints).invoke(of, Arrays.stream(a).boxed().toArray());
        } catch (ReflectiveOperationException e) {
            throw new IllegalStateException(name, e);
        }
    }

    /** A sheet of ints with these items. */
    static void fill(LightLines x, int sheet, int... items) {
        due("sheet(" + sheet + ")", x.sheet(sheet, 2, items.length), items.length);
        for (int i = 0; i < items.length; i++) {
            due("set(" + sheet + ", " + i + ")", x.set(sheet, i, items[i]), items[i]);
        }
    }

    /** A stroke of these points, told by way of sheet 7. */
    static int draw(LightLines x, int... points) {
        fill(x, 7, points);
        return x.stroke(7, 0, points.length / 2);
    }

    /** All bytes of the text come behind the tape. */
    static void tell(LightLines x, String text) {
        for (int i = 0; i < text.length(); i += 8) {
            int n = Math.min(8, text.length() - i);
            long w = 0;
            for (int k = 0; k < n; k++) {
                w = w << 8 | text.charAt(i + k) & 255;
            }
            x.feed(w, n);
        }
    }

    /** What cues() answers to the text alone. */
    static int read(LightLines x, String text) {
        tell(x, text);
        return x.cues();
    }
}
