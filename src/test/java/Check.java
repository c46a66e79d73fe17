/** What the tests share: counts answers that are not as due, and builds objects in short. */
final class Check {
    static final int NONE = -1000000, BAD = -1000001, STATE = -1000002, FULL = -1000003;
    static final int NULL = -1000011, PLACE = -1000012, KIND = -1000013, SIZE = -1000014, STORE = -1000015;

    private static int wrong;
    private static int asked;

    private Check() {
    }

    static void due(String call, long got, long want) {
        asked++;
        if (got != want) {
            wrong++;
            System.out.println(call + " answered " + got + ", due is " + want);
        }
    }

    static void end() {
        if (asked == 0) {
            System.out.println("nothing was asked");
        }
        System.exit(wrong == 0 && asked > 0 ? 0 : 1);
    }

    /** A sheet of ints with these items. */
    static void fill(LightLines x, int sheet, int... items) {
        due("sheet(" + sheet + ")", x.sheet(sheet, 2, items.length), items.length);
        for (int i = 0; i < items.length; i++) {
            due("set(" + sheet + ", " + i + ")", x.set(sheet, i, items[i]), items[i]);
        }
    }

    /** A stroke of these points, told by way of sheet 7. */
    static int draw(LightLines x, int... points) {
        fill(x, 7, points);
        return x.stroke(7, 0, points.length / 2);
    }

    /** All bytes of the text come behind the tape. */
    static void tell(LightLines x, String text) {
        for (int i = 0; i < text.length(); i += 8) {
            int n = Math.min(8, text.length() - i);
            long w = 0;
            for (int k = 0; k < n; k++) {
                w = w << 8 | text.charAt(i + k) & 255;
            }
            x.feed(w, n);
        }
    }
}
