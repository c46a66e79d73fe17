/** Promises 18 to 21. */
public final class CuesTest {
    public static void main(String[] args) {
        feed();
        texts();
        faultsOfTokens();
        faultsOfNumbers();
        faultsOfManyCues();
        faultsStay();
        frames();
        fades();
        Check.end();
    }

    private static void feed() {
        LightLines x = new LightLines();
        Check.due("0 bytes", x.feed(0, 0), Check.BAD);
        Check.due("9 bytes", x.feed(0, 9), Check.BAD);
        Check.due("-1 bytes", x.feed(0, -1), Check.BAD);
        Check.due("the lowest ones", x.feed(0x7878787878786174L, 2), 2);
        Check.due("one", x.feed('1', 1), 3);
        Check.due("the highest first", x.feed(0x6461726bL, 4), 7);
        Check.due("on the tape", x.count(6), 7);
        Check.due("one more", x.feed(-256L | ';', 1), 8);
        Check.due("at1dark;", x.cues(), 1);
        Check.due("the tape is empty", x.count(6), 0);
        for (int i = 1; i <= 37; i++) {
            Check.due("blanks", x.feed(0x2020202020202020L, 8), 8 * i);
        }
        Check.due("five are too many", x.feed(0x2020202020L, 5), Check.FULL);
        Check.due("none came", x.count(6), 296);
        Check.due("BAD goes ahead of FULL", x.feed(0, 9), Check.BAD);
        Check.due("four are not", x.feed(0x20202020L, 4), 300);
        Check.due("one is", x.feed(32, 1), Check.FULL);
        Check.due("blanks are no cue", x.cues(), 0);
        Check.due("and empty again", x.feed(32, 1), 1);
    }

    private static long read(LightLines x, String text) {
        Check.tell(x, text);
        return x.cues();
    }

    private static void texts() {
        LightLines x = new LightLines();
        Check.due("nothing", read(x, ""), 0);
        Check.due("blanks", read(x, " \n \n"), 0);
        Check.due("one", read(x, "at 1 dark;"), 1);
        Check.due("no blanks", read(x, "at1show2;at1fade3 4;at1dark;"), 3);
        Check.due("many blanks", read(x, "\n\n at\n1  show\n2 ; \n"), 1);
        Check.due("four figures", read(x, "at 9999 show 0009;"), 1);
        Check.due("LEVEL 100", read(x, "at 0 fade 100 0;"), 1);
        Check.due("LEVEL 0100", read(x, "at 0 fade 0100 9999;"), 1);
        Check.due("a frame twice", read(x, "at 5 dark;at 5 dark;"), 2);
        Check.due("no fault till now", x.fault(), 0);
    }

    private static void faulty(String text, int place, int fault) {
        LightLines x = new LightLines();
        Check.due("'" + text + "'", read(x, text), -1000100 - place);
        Check.due("fault of '" + text + "'", x.fault(), fault);
        Check.due("the tape is empty", x.count(6), 0);
    }

    private static void faultsOfTokens() {
        faulty(";", 0, 1);
        faulty("  1 at", 2, 1);
        faulty("dark;", 0, 1);
        faulty("at", 2, 1);
        faulty("at  ", 4, 1);
        faulty("at ;", 3, 1);
        faulty("at dark;", 3, 1);
        faulty("at 1 2;", 5, 1);
        faulty("at 1 at;", 5, 1);
        faulty("at 1 ;", 5, 1);
        faulty("at 1 dar;", 5, 1);
        faulty("at 1 darks;", 5, 1);
        faulty("at 1 darkz;", 5, 1);
        faulty("at 1 bark;", 5, 1);
        faulty("it 1 dark;", 0, 1);
        faulty("at 1 dark{", 9, 1);
        faulty("at 1 `dark;", 5, 1);
        faulty("at 1: dark;", 4, 1);
        faulty("at /1 dark;", 3, 1);
        faulty("at 1 dark 2;", 10, 1);
        faulty("at 1 dark at", 10, 1);
        faulty("at 1 dark", 9, 1);
        faulty("at 1 dark \n", 11, 1);
        faulty("at 1 show dark;", 10, 1);
        faulty("at 1 show 2 3;", 12, 1);
        faulty("at 1 show 2", 11, 1);
        faulty("at 1 fade;", 9, 1);
        faulty("at 1 fade 1;", 11, 1);
        faulty("at 1 fade 1 at;", 12, 1);
        faulty("at 1 fade 1 2 3;", 14, 1);
        faulty("At 1 dark;", 0, 1);
        faulty("a t 1 dark;", 0, 1);
        faulty("at -1 dark;", 3, 1);
        faulty("at 1\tdark;", 4, 1);
        faulty("at 1 dark;\r", 10, 1);
        faulty("at 1 dark;" + (char) 0, 10, 1);
        faulty("at 1 dark;" + (char) 225, 10, 1);
        faulty("at 1 dark;" + (char) 160 + "at 1 dark;", 10, 1);
        faulty("at 1 show " + (char) 178 + ";", 10, 1);
        faulty("at 1 showin 2;", 5, 1);
        faulty("at 1 showing 2;", 5, 1);
        faulty("atatata 1 dark;", 0, 1);
        faulty("at 12345 dark;", 3, 1);
        faulty("at 00001 dark;", 3, 1);
        faulty("at 1 show 123456789012;", 10, 1);
        faulty("at 1 fade 50 00000;", 13, 1);
        faulty("at 1 fade 00101 5;", 10, 1);
        faulty("at 9 dark;at 00001 dark;", 13, 1);
    }

    private static void faultsOfNumbers() {
        faulty("at 5 dark;at 4 dark;", 13, 2);
        faulty("at 5 dark;at 4;", 13, 2);
        faulty("at 5 dark;at 9 dark;at 8 dark;", 23, 2);
        faulty("at 1 fade 101 2;", 10, 2);
        faulty("at 1 fade 9999;", 10, 2);
        faulty("at 1 fade 101 2; at 0", 10, 2);
        LightLines x = new LightLines();
        Check.due("a late one", read(x, "at 50 dark;"), 1);
        Check.due("a text begins anew", read(x, "at 4 dark;"), 1);
        Check.due("a STROKE may be any", read(x, "at 4 show 9999;"), 1);
        Check.due("a span may be any", read(x, "at 4 fade 1 9999;"), 1);
    }

    private static void faultsOfManyCues() {
        String twelve = "at 1 dark;".repeat(12);
        LightLines x = new LightLines();
        Check.due("twelve", read(x, twelve), 12);
        Check.due("twelve and blanks", read(x, twelve + " \n"), 12);
        faulty(twelve + "at 0 dark;", 120, 3);
        faulty(twelve + " at", 121, 3);
        faulty(twelve + "ats", 120, 1);
        faulty(twelve + ";", 120, 1);
        faulty(twelve + "at 1 dark;at 1 dark;", 120, 3);
    }

    private static void faultsStay() {
        LightLines x = new LightLines();
        read(x, "at 3 show 4; at 3 fade 20 0;");
        Check.due("a fault", read(x, "at 3 dark; at 4 fade 101 0;"), -1000100 - 21);
        Check.due("its number", x.fault(), 2);
        Check.due("the cues stay", x.count(5), 2);
        Check.due("what is shown stays", x.frame(3, 0), 4);
        Check.due("the LEVEL stays", x.frame(3, 1), 20);
        Check.due("no fault", read(x, "at 1 dark;"), 1);
        Check.due("the latest one stays", x.fault(), 2);
        Check.due("these from now on", x.frame(3, 0), -2);
        Check.due("without the old fade", x.frame(3, 1), 100);
        read(x, "x");
        Check.due("the newest one", x.fault(), 1);
        Check.due("still dark", x.frame(3, 0), -2);
        Check.due("none", x.cues(), 0);
        Check.due("all are shown", x.frame(3, 0), -1);
    }

    private static void frames() {
        LightLines x = new LightLines();
        Check.due("frame -1", x.frame(-1, 0), Check.BAD);
        Check.due("frame 20001", x.frame(20001, 1), Check.BAD);
        Check.due("what -1", x.frame(0, -1), Check.BAD);
        Check.due("what 2", x.frame(0, 2), Check.BAD);
        read(x, "at 2 show 3; at 4 dark; at 4 fade 50 0; at 6 dark; at 6 show 9999; at 8 show 1; at 8 dark; at 9999 show 0;");
        int[] at = {0, 1, 2, 3, 4, 5, 6, 7, 8, 9998, 9999, 20000};
        int[] shown = {-1, -1, 3, 3, -2, -2, 9999, 9999, -2, -2, 0, 0};
        for (int i = 0; i < at.length; i++) {
            Check.due("shown at " + at[i], x.frame(at[i], 0), shown[i]);
        }
    }

    private static void levelsAre(String text, int first, int... levels) {
        LightLines x = new LightLines();
        read(x, text);
        for (int i = 0; i < levels.length; i++) {
            Check.due("'" + text + "' at " + (first + i), x.frame(first + i, 1), levels[i]);
        }
    }

    private static void fades() {
        levelsAre("", 0, 100, 100);
        levelsAre("at 0 fade 30 3;", 0, 100, 77, 54, 30);
        levelsAre("at 2 fade 40 0;", 0, 100, 100, 40, 40);
        levelsAre("at 2 fade 40 1;", 0, 100, 100, 100, 40, 40);
        // 90 k by 7, cut: 12, 25, 38, 51, 64, 77.
        levelsAre("at 1 fade 10 7;", 0, 100, 100, 88, 75, 62, 49, 36, 23, 10, 10);
        // Upwards: 100 k by 3, cut: 33, 66.
        levelsAre("at 0 fade 0 0; at 1 fade 100 3;", 0, 0, 0, 33, 66, 100, 100);
        // At 2 the first one is at 100 less 25; from there 75 k by 4, cut: 18, 37, 56.
        levelsAre("at 1 fade 0 4; at 2 fade 0 4;", 1, 100, 75, 57, 38, 19, 0, 0);
        // 50 by 3 is 16: 84 at 1; from there up 6 k by 4, cut: 1, 3, 4.
        levelsAre("at 0 fade 50 3; at 1 fade 90 4;", 0, 100, 84, 85, 87, 88, 90, 90);
        levelsAre("at 3 fade 0 0; at 3 fade 50 5;", 2, 100, 0, 10, 20, 30, 40, 50);
        levelsAre("at 3 fade 0 5; at 3 fade 50 5;", 2, 100, 100, 90, 80, 70, 60, 50);
        levelsAre("at 3 fade 50 5; at 3 fade 7 0;", 2, 100, 7, 7, 7, 7, 7, 7);
        levelsAre("at 0 fade 0 2; at 5 show 1; at 9 fade 100 2;", 0, 100, 50, 0, 0, 0, 0, 0, 0, 0, 0, 50, 100, 100);
        LightLines x = new LightLines();
        read(x, "at 9999 fade 0 9999;");
        Check.due("at its begin", x.frame(9999, 1), 100);
        Check.due("one ahead of its end", x.frame(19997, 1), 1);
        Check.due("at its end", x.frame(19998, 1), 0);
        Check.due("at the last frame", x.frame(20000, 1), 0);
    }
}
