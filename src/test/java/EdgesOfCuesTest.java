/** Edges of promises 18 to 21: each method is about the words that it quotes. */
public final class EdgesOfCuesTest {
    private static final int LOW = Integer.MIN_VALUE, HIGH = Integer.MAX_VALUE;

    public static void main(String[] args) {
        feedTakesTheLowest();
        feedRefused();
        tapeIsFull();
        letters();
        figures();
        signs();
        blanks();
        blanksAreNotNeeded();
        texts();
        theEnd();
        theFirstToken();
        ofOneTokenTheLeast();
        cannotStandThere();
        framesGoOn();
        levels();
        the13th();
        cuesAreThese();
        faultsLeaveTheRest();
        latestFault();
        shown();
        shownOfSeveral();
        fadesBeginAndEnd();
        fadesAreCut();
        fadesOfNoFrames();
        laterFades();
        lateFades();
        frameRefused();
        Check.end();
    }

    private static void faulty(String text, int place, int fault) {
        LightLines x = new LightLines();
        Check.due("'" + text + "'", Check.read(x, text), -1000100 - place);
        Check.due("fault of '" + text + "'", x.fault(), fault);
        Check.due("bytes behind '" + text + "'", x.count(6), 0);
        Check.due("cues behind '" + text + "'", x.count(5), 0);
    }

    private static void fine(String text, int cues) {
        LightLines x = new LightLines();
        Check.due("'" + text + "'", Check.read(x, text), cues);
        Check.due("no fault of '" + text + "'", x.fault(), 0);
        Check.due("bytes behind '" + text + "'", x.count(6), 0);
        Check.due("cues behind '" + text + "'", x.count(5), cues);
    }

    private static void feedTakesTheLowest() {
        Check.says("The lowest n bytes of w (1 to 8), the highest of them first, come behind the tape: how many it has.");
        LightLines x = new LightLines();
        Check.due("eight", x.feed(0x6174313264617273L, 8), 8);
        Check.due("of one the lowest", x.feed(0x7878787878787820L, 1), 9);
        Check.due("'at12dars ' has its fault at 4", x.cues(), -1000104);
        for (int n = 1; n <= 8; n++) {
            LightLines y = new LightLines();
            String text = "at3dark;";
            long w = 0;
            for (int k = 0; k < 8; k++) {
                w = w << 8 | (k < 8 - n ? 255 : text.charAt(k));
            }
            Check.tell(y, text.substring(0, 8 - n));
            Check.due("the last " + n, y.feed(w, n), 8);
            Check.due("'at3dark;' in two parts", y.cues(), 1);
        }
        LightLines minus = new LightLines();
        Check.due("bytes above 127", minus.feed(-1L, 8), 8);
        Check.due("they are none", minus.cues(), -1000100);
        Check.due("a byte 0", minus.feed(0, 1), 1);
        Check.due("is none, too", minus.cues(), -1000100);
        Check.due("the least w", minus.feed(Long.MIN_VALUE | ' ', 7), 7);
        Check.due("six bytes 0 ahead of a blank", minus.cues(), -1000100);
    }

    private static void feedRefused() {
        Check.says("BAD: n; FULL: none comes.");
        LightLines x = new LightLines();
        for (int n : new int[] {0, -1, 9, 64, LOW, HIGH}) {
            Check.due(n + " bytes", x.feed(0x6174313264617273L, n), Check.BAD);
        }
        Check.due("none came", x.count(6), 0);
        Check.due("one", x.feed(' ', 1), 1);
        Check.due("eight more", x.feed(0x2020202020202020L, 8), 9);
    }

    private static void tapeIsFull() {
        Check.says("THE TAPE has at most 300 bytes");
        for (int n = 1; n <= 8; n++) {
            LightLines x = new LightLines();
            Check.tell(x, "at 7 dark;" + " ".repeat(290 - n));
            Check.due("room for " + n, x.count(6), 300 - n);
            if (n < 8) {
                Check.due("one too many", x.feed(0x7878787878787878L, n + 1), Check.FULL);
                Check.due("none of them came", x.count(6), 300 - n);
            }
            Check.due("just as many", x.feed(0x2020202020202020L, n), 300);
            Check.due("no room", x.feed('x', 1), Check.FULL);
            Check.due("300", x.count(6), 300);
            Check.due("as they came", x.cues(), 1);
            Check.due("it is empty then", x.count(6), 0);
            Check.due("from the begin again", x.feed(' ', 1), 1);
        }
        LightLines x = new LightLines();
        Check.tell(x, "at 1 dark; ".repeat(12) + " ".repeat(166) + "at");
        Check.due("300 bytes", x.count(6), 300);
        Check.due("the 13th one at its end", x.cues(), -1000100 - 298);
        Check.tell(x, " ".repeat(298) + "at");
        Check.due("the end of 300 bytes", x.cues(), -1000400);
    }

    private static void letters() {
        Check.says("NAMES (letters a to z, 6 at most)");
        faulty("abcdef", 0, 1);
        faulty("abcdefg", 0, 1);
        faulty("at 1 darkda;", 5, 1);
        faulty("at 1 darkdar;", 5, 1);
        faulty("at 1 zzzzzz;", 5, 1);
        faulty("a", 0, 1);
        faulty("z", 0, 1);
        faulty("at 1 dark" + (char) 96 + ";", 9, 1);
        faulty("at 1 dark" + (char) 123 + ";", 9, 1);
        faulty("AT 1 dark;", 0, 1);
        faulty("aT 1 dark;", 0, 1);
        faulty("at 1 darK;", 5, 1);
        faulty("at 1 d", 5, 1);
        faulty("at 1 darka;", 5, 1);
        faulty("at 1 darkz;", 5, 1);
        faulty("at 1 adark;", 5, 1);
        faulty("at 1 zdark;", 5, 1);
        faulty("at 1 " + (char) ('d' + 128) + "ark;", 5, 1);
    }

    private static void figures() {
        Check.says("NUMBERS (figures, 4 at most)");
        fine("at 0 dark;", 1);
        fine("at 9 dark;", 1);
        fine("at 0000 dark;", 1);
        fine("at 9999 dark;", 1);
        fine("at 0 show 9999;", 1);
        fine("at 0 show 0000;", 1);
        fine("at 0 fade 0000 9999;", 1);
        faulty("at 00000 dark;", 3, 1);
        faulty("at 10000 dark;", 3, 1);
        faulty("at 0 show 10000;", 10, 1);
        faulty("at 0 fade 00000 1;", 10, 1);
        faulty("at 0 fade 1 10000;", 12, 1);
        faulty("at 0 fade 1 00000;", 12, 1);
        faulty("at 99999999999999999999 dark;", 3, 1);
        faulty("at " + (char) 47 + " dark;", 3, 1);
        faulty("at " + (char) 58 + " dark;", 3, 1);
        faulty("at 1/ dark;", 4, 1);
        faulty("at 1: dark;", 4, 1);
        faulty("at +1 dark;", 3, 1);
        faulty("at -1 dark;", 3, 1);
        faulty("at 1.5 dark;", 4, 1);
        faulty("at " + (char) ('1' + 128) + " dark;", 3, 1);
    }

    private static void signs() {
        Check.says("SIGNS ; bytes 32 and 10");
        faulty("at 1 dark:", 9, 1);
        faulty("at 1 dark<", 9, 1);
        faulty("at 1 dark,", 9, 1);
        faulty("at 1 dark" + (char) (';' + 128), 9, 1);
        faulty("at 1 dark;;", 10, 1);
        faulty("at 1 dark ; ;", 12, 1);
        faulty(";", 0, 1);
        fine("at 1 dark;", 1);
    }

    private static void blanks() {
        Check.says("bytes 32 and 10 ahead of, between, behind these, as many as wanted");
        fine("", 0);
        fine(" ", 0);
        fine("\n", 0);
        fine(" ".repeat(300), 0);
        fine("\n".repeat(300), 0);
        fine("\n  at \n 1 \n\n dark \n ; \n", 1);
        fine(" ".repeat(97) + "at" + "\n".repeat(97) + "1" + " ".repeat(97) + "dark;", 1);
        for (int blank : new int[] {0, 9, 11, 12, 13, 31, 33, 127, 128, 160, 128 + 10, 255}) {
            faulty((char) blank + "at 1 dark;", 0, 1);
            faulty("at" + (char) blank + "1 dark;", 2, 1);
            faulty("at 1 dark;" + (char) blank, 10, 1);
        }
    }

    private static void blanksAreNotNeeded() {
        Check.says("(none is needed where one ends without)");
        fine("at1dark;", 1);
        fine("at1show2;at3fade4 5;at6dark;", 3);
        fine("at9999show9999;at9999fade100 9999;", 2);
        faulty("at1fade34;", 9, 1);
        faulty("at12show;", 8, 1);
        faulty("atdark;", 0, 1);
        faulty("at 1 da rk;", 5, 1);
        faulty("a t 1 dark;", 0, 1);
        faulty("at 1 2 dark;", 5, 1);
        faulty("at 1 show 2 3;", 12, 1);
        faulty("at 1 fade 9 99 9;", 15, 1);
        LightLines x = new LightLines();
        Check.due("figures of one run are one", Check.read(x, "at12show34;"), 1);
        Check.due("ahead of 12", x.frame(11, 0), -1);
        Check.due("at 12", x.frame(12, 0), 34);
    }

    private static void texts() {
        Check.says("text: { 'at' NUMBER ( 'show' NUMBER | 'dark' | 'fade' NUMBER NUMBER ) ';' }");
        fine("", 0);
        fine("at 0 show 0;", 1);
        fine("at 0 dark;", 1);
        fine("at 0 fade 0 0;", 1);
        fine("at 0 show 0; at 0 dark; at 0 fade 0 0;", 3);
        faulty("show 0;", 0, 1);
        faulty("at 0;", 4, 1);
        faulty("at 0 show;", 9, 1);
        faulty("at 0 show dark;", 10, 1);
        faulty("at 0 dark 0;", 10, 1);
        faulty("at 0 dark dark;", 10, 1);
        faulty("at 0 fade;", 9, 1);
        faulty("at 0 fade 0;", 11, 1);
        faulty("at 0 fade 0 0 0;", 14, 1);
        faulty("at 0 at 0 dark;", 5, 1);
        faulty("at at 0 dark;", 3, 1);
        faulty("at 0 shows 0;", 5, 1);
        faulty("at 0 sho 0;", 5, 1);
        faulty("at 0 fad 0 0;", 5, 1);
        faulty("at 0 fades 0 0;", 5, 1);
        faulty("at 0 dark; 0", 11, 1);
        faulty("at 0 dark; dark", 11, 1);
    }

    private static void theEnd() {
        Check.says("the end: how many bytes there are");
        String whole = "at 1 fade 2 3;";
        // By how many bytes are left: cut within a word it is the word that has the fault, else it is the end.
        int[] places = {0, 0, 2, 3, 4, 5, 5, 5, 5, 9, 10, 11, 12, 13};
        for (int n = 1; n < whole.length(); n++) {
            faulty(whole.substring(0, n), places[n], 1);
        }
        fine(whole, 1);
        faulty("at", 2, 1);
        faulty("at ", 3, 1);
        faulty("at \n ", 5, 1);
        faulty("at 1 dark", 9, 1);
        faulty("at 1 dark  ", 11, 1);
        faulty("at 1 dark; at", 13, 1);
        faulty(" ".repeat(297) + "at ", 300, 1);
    }

    private static void theFirstToken() {
        Check.says("the first TOKEN that has one (its first byte)");
        faulty("at 5 dark; at 4 dark; at x", 14, 2);
        faulty("at 5 fade 101 x; #", 10, 2);
        faulty("at 5 fade 101 99999;", 10, 2);
        faulty("at 5 fade x 101;", 10, 1);
        faulty("at 5 dark # at 4 dark;", 10, 1);
        faulty("at 5 dark; at 4 x", 14, 2);
        faulty("  abcdefgh at", 2, 1);
        faulty("at  123456", 4, 1);
        faulty("at 5 dark; at 4 dark; at 3 dark;", 14, 2);
    }

    private static void ofOneTokenTheLeast() {
        Check.says("of one TOKEN the least");
        faulty("at 9 dark; at 00008 dark;", 14, 1);
        faulty("at 9 fade 00101 1;", 10, 1);
        String twelve = "at 1 dark;".repeat(12);
        faulty(twelve + "it", 120, 1);
        faulty(twelve + "dark;", 120, 1);
        faulty(twelve + "7", 120, 1);
        faulty(twelve + ";", 120, 1);
        faulty(twelve + "#", 120, 1);
        faulty(twelve + "atatata", 120, 1);
        faulty(twelve + "at0 dark;", 120, 3);
    }

    private static void cannotStandThere() {
        Check.says("1 it cannot stand there, or is none (a run of seven letters or more, of five figures or more, at its first;");
        faulty("7", 0, 1);
        faulty("at show", 3, 1);
        faulty("at ;", 3, 1);
        faulty("at 1 7", 5, 1);
        faulty("at 1 ;", 5, 1);
        faulty("at 1 show ;", 10, 1);
        faulty("at 1 fade ;", 10, 1);
        faulty("at 1 fade 1 dark", 12, 1);
        faulty("at 1 dark at", 10, 1);
        faulty("at 1 showshow 1;", 5, 1);
        faulty("   atatatat", 3, 1);
        faulty("at 1 show   123451234512345", 12, 1);
    }

    private static void framesGoOn() {
        Check.says("2 a NUMBER: a frame less than that of the one ahead");
        fine("at 0 dark; at 0 dark;", 2);
        fine("at 5 dark; at 5 dark; at 6 dark;", 3);
        fine("at 9999 dark; at 9999 dark;", 2);
        fine("at 0010 dark; at 10 dark;", 2);
        faulty("at 1 dark; at 0 dark;", 14, 2);
        faulty("at 9999 dark; at 9998 dark;", 17, 2);
        faulty("at 10 dark; at 0009 dark;", 15, 2);
        faulty("at 10 dark; at 9 dark;", 15, 2);
        faulty("at 5 dark; at 7 dark; at 6 dark;", 25, 2);
        fine("at 5 show 3; at 5 fade 0 0;", 2);
        fine("at 50 fade 1 90; at 50 show 2; at 51 dark;", 3);
        LightLines x = new LightLines();
        Check.read(x, "at 9 dark;");
        Check.due("another text begins anew", Check.read(x, "at 0 dark;"), 1);
        Check.read(x, "at 9 dark; at 8");
        Check.due("behind a fault, too", Check.read(x, "at 0 dark;"), 1);
    }

    private static void levels() {
        Check.says("a LEVEL above 100");
        fine("at 1 fade 0 1;", 1);
        fine("at 1 fade 100 1;", 1);
        fine("at 1 fade 0100 1;", 1);
        faulty("at 1 fade 101 1;", 10, 2);
        faulty("at 1 fade 0101 1;", 10, 2);
        faulty("at 1 fade 9999 1;", 10, 2);
        faulty("at 1 fade 101", 10, 2);
        fine("at 1 fade 1 101;", 1);
        fine("at 101 show 101;", 1);
    }

    private static void the13th() {
        Check.says("3 the 13th one (its word)");
        String twelve = "at 1 dark;".repeat(12);
        fine("at 1 dark;".repeat(11), 11);
        fine(twelve, 12);
        fine(twelve + "\n ", 12);
        faulty(twelve + "at 1 dark;", 120, 3);
        faulty(twelve + "\n at 1 dark;", 122, 3);
        faulty(twelve + "at", 120, 3);
        faulty(twelve + "at x", 120, 3);
        faulty(twelve + "at 0 dark;", 120, 3);
        faulty(twelve + "at 1 dark;".repeat(18), 120, 3);
        faulty("at 1 dark;".repeat(11) + "at 0 dark;at 1 dark;", 113, 2);
        faulty("at 1 dark;".repeat(11) + "at 1 dark at 1 dark;", 120, 1);
        LightLines x = new LightLines();
        Check.due("the 12th one counts", Check.read(x, "at 1 dark;".repeat(11) + "at 1 show 9;"), 12);
        Check.due("it is the last", x.frame(1, 0), 9);
        Check.due("twelve again", Check.read(x, twelve), 12);
        Check.due("twelve are kept", x.count(5), 12);
    }

    private static void cuesAreThese() {
        Check.says("The tape, empty then, is read: how many CUES; they are these from now on.");
        LightLines x = new LightLines();
        Check.due("an empty tape", x.cues(), 0);
        Check.tell(x, "at 1 show 5;");
        Check.due("what is only on the tape is none", x.frame(1, 0), -1);
        Check.due("one", x.cues(), 1);
        Check.due("from now on", x.frame(1, 0), 5);
        Check.due("the tape is empty", x.count(6), 0);
        Check.tell(x, "at 2 fade 0 0; at 3 dark;");
        Check.due("these stay till then", x.frame(3, 0), 5);
        Check.due("two", x.cues(), 2);
        Check.due("what was told ahead is gone", x.frame(2, 0), -1);
        Check.due("what is told now", x.frame(3, 0), -2);
        Check.due("an empty tape again", x.cues(), 0);
        Check.due("ends them all", x.frame(3, 0), -1);
        Check.due("and the fade", x.frame(3, 1), 100);
        Check.due("none are left", x.count(5), 0);
        nothingIsLeftOfEarlierCues();
    }

    private static void nothingIsLeftOfEarlierCues() {
        LightLines x = new LightLines();
        Check.read(x, "at 1 dark; at 1 fade 50 0; at 1 dark; at 1 fade 20 0;");
        Check.read(x, "at 1 fade 40 9; at 1 dark; at 1 fade 30 9; at 1 dark;");
        Check.due("fewer, of other words", Check.read(x, "at 1 show 6; at 1 show 7;"), 2);
        Check.due("the last one of these", x.frame(1, 0), 7);
        Check.due("no fade of those", x.frame(9, 1), 100);
        Check.due("fewer still", Check.read(x, "at 1 fade 10 0;"), 1);
        Check.due("no word of those", x.frame(1, 0), -1);
        Check.due("this fade", x.frame(1, 1), 10);
        Check.due("the most of them", Check.read(x, "at 2 fade 5 0;".repeat(12)), 12);
        Check.due("behind them all", x.frame(20000, 1), 5);
        Check.due("none is shown by them", x.frame(20000, 0), -1);
    }

    private static void faultsLeaveTheRest() {
        Check.says("-1000100 less the place of a FAULT: all but the tape, and what fault() tells, stays.");
        String twelve = "at 1 dark;".repeat(12);
        String[] texts = {"x", "at 1 fade 0 0; at 0", "at 1 dark; at 2 fade 101", twelve + "at 3 dark;"};
        int[] places = {0, 18, 21, 120};
        int[] faults = {1, 2, 2, 3};
        for (int i = 0; i < texts.length; i++) {
            LightLines x = new LightLines();
            Check.draw(x, 1, 2);
            Check.read(x, "at 1 show 5; at 1 fade 50 0;");
            x.ask(0, 0);
            x.drop(3);
            Check.due("'" + texts[i] + "'", Check.read(x, texts[i]), -1000100 - places[i]);
            Check.due("the tape is empty", x.count(6), 0);
            Check.due("the fault", x.fault(), faults[i]);
            Check.due("two cues stay", x.count(5), 2);
            Check.due("what is shown stays", x.frame(1, 0), 5);
            Check.due("ahead, too", x.frame(0, 0), -1);
            Check.due("the LEVEL stays", x.frame(1, 1), 50);
            Check.due("the trace stays", x.trace(0), 13);
            Check.due("the finding stays", x.status(), 1);
            Check.due("the stroke stays", x.point(0, 0, 1), 2);
        }
    }

    private static void latestFault() {
        Check.says("The number of the latest FAULT; 0 before one.");
        LightLines x = new LightLines();
        Check.due("before one", x.fault(), 0);
        Check.due("an empty tape has none", x.cues() + x.fault(), 0);
        x.feed(0, 9);
        Check.due("what is refused is none", x.fault(), 0);
        Check.read(x, "at 1 fade 101");
        Check.due("2", x.fault(), 2);
        Check.due("asked again", x.fault(), 2);
        Check.read(x, "at 1 dark;");
        Check.due("a text without one leaves it", x.fault(), 2);
        Check.read(x, "at 1 dark;".repeat(13));
        Check.due("3", x.fault(), 3);
        Check.read(x, "#");
        Check.due("1", x.fault(), 1);
    }

    private static void shown() {
        Check.says("SHOWN is what the latest 'show' or 'dark' at f or ahead of it tells");
        LightLines x = new LightLines();
        Check.read(x, "at 0 show 7; at 10 dark; at 20 show 9999; at 30 fade 0 0; at 9999 show 0;");
        int[] frames = {0, 1, 9, 10, 11, 19, 20, 29, 30, 31, 9998, 9999, 10000, 20000};
        int[] shown = {7, 7, 7, -2, -2, -2, 9999, 9999, 9999, 9999, 9999, 0, 0, 0};
        for (int i = 0; i < frames.length; i++) {
            Check.due("at " + frames[i], x.frame(frames[i], 0), shown[i]);
        }
        Check.says("without one: all (NONE told)");
        LightLines late = new LightLines();
        Check.read(late, "at 3 fade 7 0; at 5 dark;");
        int[] ahead = {-1, -1, -1, -1, -1, -2, -2};
        for (int f = 0; f < ahead.length; f++) {
            Check.due("at " + f, late.frame(f, 0), ahead[f]);
        }
        Check.says("a STROKE's number as told (it may not be there)");
        Check.due("no stroke is there", x.count(1), 0);
        Check.due("0 is shown all the same", x.frame(9999, 0), 0);
    }

    private static void shownOfSeveral() {
        Check.says("(of several at one frame the last one)");
        LightLines x = new LightLines();
        Check.read(x, "at 4 dark; at 4 show 1; at 4 show 2; at 4 fade 9 0; at 6 show 3; at 6 dark;");
        int[] shown = {-1, 2, 2, -2, -2};
        for (int i = 0; i < shown.length; i++) {
            Check.due("at " + (3 + i), x.frame(3 + i, 0), shown[i]);
        }
        Check.due("the last one is no fade", x.frame(4, 1), 9);
    }

    private static void levelsAre(String text, int first, int... levels) {
        LightLines x = new LightLines();
        Check.read(x, text);
        Check.due("no fault of '" + text + "'", x.fault(), 0);
        for (int i = 0; i < levels.length; i++) {
            Check.due("'" + text + "' at " + (first + i), x.frame(first + i, 1), levels[i]);
        }
    }

    private static void fadesBeginAndEnd() {
        Check.says("LEVEL: 100 at first");
        levelsAre("at 5 show 1;", 0, 100, 100, 100, 100, 100, 100, 100);
        Check.says("at f it is that, and (v - that) times (f - g) by n, cut towards 0, till g + n; v from then on");
        levelsAre("at 3 fade 50 5;", 2, 100, 100, 90, 80, 70, 60, 50, 50, 50);
        levelsAre("at 0 fade 0 1;", 0, 100, 0, 0);
        levelsAre("at 0 fade 0 2;", 0, 100, 50, 0, 0);
        levelsAre("at 0 fade 100 4;", 0, 100, 100, 100, 100, 100, 100);
        levelsAre("at 1 fade 99 3;", 0, 100, 100, 100, 100, 99, 99);
    }

    private static void fadesAreCut() {
        Check.says("(v - that) times (f - g) by n, cut towards 0");
        // Down -100 k by 3: -33, -66. Up 100 k by 3: 33, 66.
        levelsAre("at 0 fade 0 3; at 4 fade 100 3;", 0, 100, 67, 34, 0, 0, 33, 66, 100, 100);
        // Down -1 k by 4 is 0 till the end.
        levelsAre("at 0 fade 99 4;", 0, 100, 100, 100, 100, 99);
        // Up 1 k by 4 is 0 till the end.
        levelsAre("at 0 fade 0 0; at 1 fade 1 4;", 0, 0, 0, 0, 0, 0, 1);
        // From 60: 30 k by 4 is 7, 15, 22.
        levelsAre("at 0 fade 60 0; at 0 fade 90 4;", 0, 60, 67, 75, 82, 90);
    }

    private static void fadesOfNoFrames() {
        Check.says("(n 0: at once)");
        levelsAre("at 2 fade 30 0;", 0, 100, 100, 30, 30);
        levelsAre("at 0 fade 0 0;", 0, 0, 0);
        levelsAre("at 1 fade 0 0; at 1 fade 70 0;", 0, 100, 70, 70);
        levelsAre("at 1 fade 0 0; at 1 fade 100 2;", 0, 100, 0, 50, 100);
        levelsAre("at 1 fade 0 2; at 1 fade 100 0;", 0, 100, 100, 100, 100);
        levelsAre("at 9 fade 5 0000;", 8, 100, 5);
    }

    private static void laterFades() {
        Check.says("a fade at frame g from what it was there (as told, cut; behind all fades ahead) to v within n frames");
        // At 1 it is 100 - 33: from 67 down by 67 k by 2, cut: 33.
        levelsAre("at 0 fade 0 3; at 1 fade 0 2;", 0, 100, 67, 34, 0, 0);
        // At 2 the first one has just ended.
        levelsAre("at 0 fade 0 2; at 2 fade 10 2;", 0, 100, 50, 0, 5, 10, 10);
        // Three at one frame: 80 at once; towards 0, but not a frame of it; then from 80 to 40 by 2.
        levelsAre("at 1 fade 80 0; at 1 fade 0 9; at 1 fade 40 2;", 0, 100, 80, 60, 40, 40);
        // 50 at 5; there it turns; 75 at 10 by the second one, which ends at 15.
        levelsAre("at 0 fade 0 10; at 5 fade 100 10;", 4, 60, 50, 55, 60, 65, 70, 75, 80, 85, 90, 95, 100, 100);
        Check.says("a later fade ends an earlier one.");
        levelsAre("at 0 fade 0 10; at 1 fade 95 0;", 0, 100, 95, 95, 95);
        levelsAre("at 0 fade 0 10; at 1 fade 95 0;", 9, 95, 95, 95);
        levelsAre("at 0 fade 0 4; at 1 fade 77 1;", 0, 100, 75, 77, 77, 77, 77);
        levelsAre("at 0 fade 0 4; at 1 show 2; at 2 dark;", 0, 100, 75, 50, 25, 0, 0);
    }

    private static void lateFades() {
        Check.says("At a frame (0 to 20000)");
        LightLines x = new LightLines();
        Check.read(x, "at 9999 fade 0 9999;");
        int[][] due = {{0, 100}, {9998, 100}, {9999, 100}, {10098, 100}, {10099, 99}, {19898, 2}, {19899, 1}, {19997, 1}, {19998, 0},
            {20000, 0}};
        // -100 k by 9999, cut: k 99 is 0, k 100 is -1; k 9899 is -98, k 9900 and 9998 are -99.
        for (int[] d : due) {
            Check.due("LEVEL at " + d[0], x.frame(d[0], 1), d[1]);
        }
    }

    private static void frameRefused() {
        Check.says("0 what is SHOWN: a STROKE's number as told (it may not be there), -1 all, -2 nothing; 1 LEVEL. BAD.");
        LightLines x = new LightLines();
        for (int f : new int[] {-1, 20001, LOW, HIGH}) {
            Check.due("frame " + f, x.frame(f, 0), Check.BAD);
            Check.due("LEVEL of frame " + f, x.frame(f, 1), Check.BAD);
        }
        for (int what : new int[] {-1, 2, LOW, HIGH}) {
            Check.due("what " + what, x.frame(0, what), Check.BAD);
        }
        Check.due("the first frame", x.frame(0, 0), -1);
        Check.due("the last frame", x.frame(20000, 0), -1);
    }
}
