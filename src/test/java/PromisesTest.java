/** Each promise of ../shared/DOC.md with ordinary inputs, its edges and wrong inputs; the dues are worked out by hand. */
public final class PromisesTest {
    static final int NONE = -2000001;
    static final String INDEX = "IndexOutOfBoundsException";
    static final String ARGUMENT = "IllegalArgumentException";
    static final String STATE = "IllegalStateException";
    static int wrong = 0;
    static int promise = 0;

    interface Call {
        long answer();
    }

    static void due(String what, Call call, long want) {
        String got;
        try {
            got = Long.toString(call.answer());
        } catch (RuntimeException e) {
            got = e.getClass().getSimpleName();
        }
        check(what, got, Long.toString(want));
    }

    static void thrown(String what, Call call, String want) {
        String got;
        try {
            got = Long.toString(call.answer());
        } catch (RuntimeException e) {
            got = e.getClass().getSimpleName();
        }
        check(what, got, want);
    }

    /** A call that throws, and changes nothing. */
    static void refused(CueSheets x, String what, Call call, String want) {
        long before = x.digest();
        thrown(what, call, want);
        due(what + " changes nothing", () -> x.digest(), before);
    }

    static void check(String what, String got, String want) {
        if (!got.equals(want)) {
            wrong++;
            System.out.println("promise " + promise + ": " + what + " answered " + got + ", due is " + want);
        }
    }

    static void type(CueSheets x, String text) {
        for (int i = 0; i < text.length(); i++) {
            x.append(text.charAt(i));
        }
    }

    static int error(String text) {
        CueSheets x = new CueSheets();
        type(x, text);
        return x.firstError();
    }

    /** Two scenes of 100 feet at 16 (1000 tenths each), and the pieces 50 + n * 200 + 30 and n * 90. */
    static CueSheets small() {
        CueSheets x = new CueSheets();
        x.addScene(0, 100);
        x.addScene(0, 100);
        x.addPiece(50, 200, 30);
        x.addPiece(0, 90, 0);
        return x;
    }

    static void newObject() {
        promise = 1;
        CueSheets x = new CueSheets();
        due("NONE", () -> CueSheets.NONE, -2000001);
        for (int r = 0; r < 3; r++) {
            int reel = r;
            for (int w = 0; w <= 10; w++) {
                int what = w;
                due("reel(" + r + ", " + w + ")", () -> x.reel(reel, what), w == 4 ? 1 : 0);
            }
            due("speedAt", () -> x.speedAt(reel, 0), 16);
            due("speedAt", () -> x.speedAt(reel, 9000), 16);
        }
        int[] counts = {0, 0, 0, 0, 20, 5, 0, 0};
        for (int w = 0; w < 8; w++) {
            int what = w;
            due("count(" + w + ")", () -> x.count(what), counts[w]);
        }
        due("clearBuffer", () -> x.clearBuffer(), 0);
    }

    static void addScene() {
        promise = 2;
        CueSheets x = new CueSheets();
        due("first", () -> x.addScene(0, 1), 0);
        due("second", () -> x.addScene(0, 900), 1);
        due("other reel", () -> x.addScene(2, 5), 0);
        due("no cue", () -> x.scene(0, 1, 5), NONE);
        due("saved states", () -> x.count(7), 3);
        refused(x, "reel -1", () -> x.addScene(-1, 0), INDEX);
        refused(x, "reel 3", () -> x.addScene(3, 5), INDEX);
        refused(x, "length 0", () -> x.addScene(0, 0), ARGUMENT);
        refused(x, "length 901", () -> x.addScene(0, 901), ARGUMENT);
        for (int i = 2; i < 10; i++) {
            int number = i;
            due("scene " + i, () -> x.addScene(0, 7), number);
        }
        refused(x, "scene 10", () -> x.addScene(0, 7), STATE);
        refused(x, "scene 10, length 0", () -> x.addScene(0, 0), ARGUMENT);
        due("other reel still", () -> x.addScene(1, 7), 0);
    }

    static void removeScene() {
        promise = 3;
        CueSheets x = small();
        x.addScene(0, 30);
        x.crank(0, 100, 20);
        x.splice(0, 150, 10);
        x.setCue(0, 1, 1, 3, 90);
        due("first", () -> x.removeScene(0, 0), 2);
        due("its cue comes along", () -> x.scene(0, 0, 5), 1);
        due("strains", () -> x.scene(0, 0, 6), 3);
        due("speeds stay", () -> x.speedAt(0, 99), 16);
        due("speeds stay", () -> x.speedAt(0, 100), 20);
        due("splices stay, behind the film", () -> x.reel(0, 2), 0);
        due("splices stay", () -> x.reel(0, 5), 1);
        due("cue goes", () -> x.removeScene(0, 0), 1);
        due("cues", () -> x.reel(0, 6), 0);
        due("length", () -> x.scene(0, 0, 0), 30);
        refused(x, "scene 1", () -> x.removeScene(0, 1), INDEX);
        refused(x, "scene -1", () -> x.removeScene(0, -1), INDEX);
        refused(x, "reel 3", () -> x.removeScene(3, 0), INDEX);
        due("last", () -> x.removeScene(0, 0), 0);
        refused(x, "none left", () -> x.removeScene(0, 0), INDEX);
    }

    static void crank() {
        promise = 4;
        CueSheets x = small();
        due("new foot", () -> x.crank(0, 50, 20), 2);
        due("time", () -> x.scene(0, 0, 3), 50 * 10 + 50 * 8);
        due("replaced", () -> x.crank(0, 50, 30), 2);
        due("rounded down", () -> x.crank(0, 150, 24), 3);
        due("time", () -> x.scene(0, 1, 3), 50 * 5 + 50 * 6);
        due("foot 0 replaced", () -> x.crank(0, 0, 10), 3);
        due("time", () -> x.scene(0, 0, 3), 50 * 16 + 50 * 5);
        due("last foot", () -> x.crank(0, 9000, 10), 4);
        due("before others", () -> x.crank(0, 1, 11), 5);
        due("sixth", () -> x.crank(0, 2, 12), 6);
        due("time", () -> x.scene(0, 0, 3), 16 + 14 + 48 * 13 + 50 * 5);
        refused(x, "seventh", () -> x.crank(0, 3, 12), STATE);
        due("replaced when full", () -> x.crank(0, 2, 13), 6);
        refused(x, "reel", () -> x.crank(3, -1, 9), INDEX);
        refused(x, "foot -1", () -> x.crank(0, -1, 12), ARGUMENT);
        refused(x, "foot 9001", () -> x.crank(0, 9001, 12), ARGUMENT);
        refused(x, "speed 9", () -> x.crank(0, 5, 9), ARGUMENT);
        refused(x, "speed 31", () -> x.crank(0, 5, 31), ARGUMENT);
        due("other reel", () -> x.crank(1, 3, 12), 2);
    }

    static void splice() {
        promise = 5;
        CueSheets x = small();
        due("first", () -> x.splice(0, 90, 20), 1);
        due("lost in scene 0", () -> x.scene(0, 0, 2), 10);
        due("lost in scene 1", () -> x.scene(0, 1, 2), 10);
        due("overlapping", () -> x.splice(0, 85, 10), 2);
        due("lost once", () -> x.reel(0, 2), 25);
        due("inside", () -> x.splice(0, 86, 1), 3);
        due("lost once", () -> x.reel(0, 2), 25);
        due("replaced", () -> x.splice(0, 90, 1), 3);
        due("lost", () -> x.reel(0, 2), 10);
        due("time", () -> x.reel(0, 3), 1900);
        due("over the end", () -> x.splice(0, 190, 50), 4);
        due("lost", () -> x.reel(0, 2), 20);
        due("behind the end", () -> x.splice(0, 9000, 50), 5);
        due("sixth", () -> x.splice(0, 0, 1), 6);
        refused(x, "seventh", () -> x.splice(0, 1, 1), STATE);
        due("remove what is not there", () -> x.splice(0, 1, 0), 6);
        due("replaced when full", () -> x.splice(0, 0, 2), 6);
        due("removed", () -> x.splice(0, 0, 0), 5);
        due("lost", () -> x.reel(0, 2), 20);
        refused(x, "reel", () -> x.splice(-1, -1, 1), INDEX);
        refused(x, "foot -1", () -> x.splice(0, -1, 1), ARGUMENT);
        refused(x, "foot 9001", () -> x.splice(0, 9001, 0), ARGUMENT);
        refused(x, "lost -1", () -> x.splice(0, 1, -1), ARGUMENT);
        refused(x, "lost 51", () -> x.splice(0, 1, 51), ARGUMENT);
    }

    static void addPiece() {
        promise = 6;
        CueSheets x = new CueSheets();
        due("least", () -> x.addPiece(0, 10, 0), 0);
        due("most", () -> x.addPiece(600, 1200, 600), 1);
        refused(x, "opening -1", () -> x.addPiece(-1, 10, 0), ARGUMENT);
        refused(x, "opening 601", () -> x.addPiece(601, 10, 0), ARGUMENT);
        refused(x, "strain 9", () -> x.addPiece(0, 9, 0), ARGUMENT);
        refused(x, "strain 1201", () -> x.addPiece(0, 1201, 0), ARGUMENT);
        refused(x, "close -1", () -> x.addPiece(0, 10, -1), ARGUMENT);
        refused(x, "close 601", () -> x.addPiece(0, 10, 601), ARGUMENT);
        for (int i = 2; i < 8; i++) {
            int number = i;
            due("piece " + i, () -> x.addPiece(1, 11, 2), number);
        }
        refused(x, "ninth", () -> x.addPiece(1, 11, 2), STATE);
        refused(x, "ninth, wrong", () -> x.addPiece(1, 1, 2), ARGUMENT);
    }

    static void setCue() {
        promise = 7;
        CueSheets x = small();
        due("early", () -> x.setCue(0, 0, 0, 4, 100), 880 - 1000);
        due("exact", () -> x.setCue(0, 1, 1, 9, 81), 0);
        due("late", () -> x.setCue(0, 0, 0, 5, 90), 1200 - 1000);
        due("pushed", () -> x.scene(0, 1, 8), 1200);
        due("drift of the pushed", () -> x.setCue(0, 1, 1, 9, 81), 200);
        due("rounded down", () -> x.setCue(0, 0, 1, 1, 120), 75 - 1000);
        due("rounded down", () -> x.setCue(0, 0, 1, 1, 119), 75 - 1000);
        due("taken away", () -> x.setCue(0, 0, NONE, 1, 80), 0);
        due("cues", () -> x.reel(0, 6), 1);
        due("strains", () -> x.scene(0, 0, 6), 0);
        due("nothing to take away", () -> x.setCue(0, 0, NONE, 9, 120), 0);
        refused(x, "reel", () -> x.setCue(3, 0, 0, 0, 0), INDEX);
        refused(x, "scene", () -> x.setCue(0, 2, 0, 0, 0), INDEX);
        refused(x, "scene -1", () -> x.setCue(0, -1, 0, 1, 100), INDEX);
        refused(x, "piece 2", () -> x.setCue(0, 0, 2, 0, 0), INDEX);
        refused(x, "piece -1", () -> x.setCue(0, 0, -1, 1, 100), INDEX);
        refused(x, "strains 0", () -> x.setCue(0, 0, 0, 0, 100), ARGUMENT);
        refused(x, "strains 10", () -> x.setCue(0, 0, 0, 10, 100), ARGUMENT);
        refused(x, "pace 79", () -> x.setCue(0, 0, 0, 1, 79), ARGUMENT);
        refused(x, "pace 121", () -> x.setCue(0, 0, 0, 1, 121), ARGUMENT);
        refused(x, "strains 0 with NONE", () -> x.setCue(0, 1, NONE, 0, 100), ARGUMENT);
        refused(x, "pace 121 with NONE", () -> x.setCue(0, 1, NONE, 1, 121), ARGUMENT);
    }

    static void fit() {
        promise = 8;
        CueSheets x = small();
        x.addScene(0, 10);
        due("no cues", () -> x.fit(0), 0);
        x.setCue(0, 0, 0, 9, 100);
        x.setCue(0, 1, 0, 9, 100);
        // 1080 at 105 is 1028 (880 at 95 is 926); behind it 972 are left: 880 at 95 is 926, 1080 at 105 is 1028.
        due("two", () -> x.fit(0), 2);
        due("strains", () -> x.scene(0, 0, 6), 5);
        due("pace", () -> x.scene(0, 0, 7), 105);
        due("drift", () -> x.scene(0, 0, 10), 28);
        due("strains behind", () -> x.scene(0, 1, 6), 4);
        due("pace behind", () -> x.scene(0, 1, 7), 95);
        due("drift behind", () -> x.scene(0, 1, 10), 1028 + 926 - 2000);
        due("scene without a cue", () -> x.scene(0, 2, 5), NONE);
        due("again", () -> x.fit(0), 0);
        due("saved though nothing changed", () -> x.count(7), 6);
        x.setCue(0, 1, 0, 4, 96);
        due("only the pace", () -> x.fit(0), 1);
        x.setCue(0, 1, 0, 5, 95);
        due("only the strains", () -> x.fit(0), 1);
        refused(x, "reel 3", () -> x.fit(3), INDEX);
        refused(x, "reel -1", () -> x.fit(-1), INDEX);
    }

    static void set() {
        promise = 9;
        CueSheets x = small();
        due("first", () -> x.set(600, 20), 2005);
        due("second", () -> x.set(0, 0), 60020);
        due("tolerance", () -> x.count(4), 0);
        due("leeway", () -> x.count(5), 0);
        refused(x, "tolerance -1", () -> x.set(-1, 0), ARGUMENT);
        refused(x, "tolerance 601", () -> x.set(601, 0), ARGUMENT);
        refused(x, "leeway -1", () -> x.set(0, -1), ARGUMENT);
        refused(x, "leeway 21", () -> x.set(0, 21), ARGUMENT);
        x.set(120, 5);
        due("drift", () -> x.setCue(0, 0, 0, 4, 100), -120);
        due("not bad at the tolerance", () -> x.scene(0, 0, 11), 0);
        x.set(119, 5);
        due("bad above it", () -> x.scene(0, 0, 11), 1);
    }

    static void append() {
        promise = 10;
        CueSheets x = new CueSheets();
        due("least", () -> x.append(33), 1);
        due("most", () -> x.append(126), 2);
        refused(x, "32", () -> x.append(32), ARGUMENT);
        refused(x, "127", () -> x.append(127), ARGUMENT);
        for (int i = 2; i < 60; i++) {
            int length = i + 1;
            due("character " + i, () -> x.append(49), length);
        }
        refused(x, "61st", () -> x.append(49), STATE);
        refused(x, "61st, wrong", () -> x.append(0), ARGUMENT);
        due("not undoable", () -> x.count(7), 0);
    }

    static void clearBuffer() {
        promise = 11;
        CueSheets x = new CueSheets();
        due("empty", () -> x.clearBuffer(), 0);
        type(x, "12,");
        due("three", () -> x.clearBuffer(), 3);
        due("again", () -> x.clearBuffer(), 0);
        due("not undoable", () -> x.count(7), 0);
        due("append starts anew", () -> x.append(49), 1);
    }

    static void firstError() {
        promise = 12;
        String[] good = {"", "1", "9", "90", "99", "900", "899", "1,", "5:", "5:0", "5:7x", "5:7x9", "5:7x1@", "5:0x1@8",
            "5:0x1@80", "5:0x1@99", "5:0x1@1", "5:0x1@10", "5:0x1@100", "5:0x1@119", "5:0x1@12", "5:0x1@120",
            "5:0x1@120,900:7x9,1", "5:0x1@80,1", "5:0x1@99,1", "5:0x1@100,1", "1,1,1,1,1,1,1,1,1,1,1,1,1,1,1,1,1,1,1,1,1,1,1,1,1,1,1,1,1,1,"};
        for (String text : good) {
            due(text, () -> error(text), text.length());
        }
        // Each one is wrong at its last character alone.
        String[] bad = {"0", ",", ":", "x", "@", "a", "901", "910", "1000", "9000", "1,,", "1,0", "1x", "1@", "1::", "5:8",
            "5:x", "5:00", "5:0,", "5:0:", "5:0x0", "5:0xx", "5:0x1x", "5:0x11", "5:0x1:", "5:0x1@0", "5:0x1@7",
            "5:0x1@2", "5:0x1@13", "5:0x1@121", "5:0x1@800", "5:0x1@990", "5:0x1@1000", "5:0x1@8,", "5:0x1@10,", "5:0x1@12,",
            "5:0x1@90@", "5:0x1@90:", "5:0x1@@", "5:0x1,,", "5:X"};
        for (String text : bad) {
            due(text, () -> error(text), text.length() - 1);
            due(text + ",1", () -> error(text + ",1"), text.length() - 1);
        }
    }

    static void load() {
        promise = 13;
        CueSheets x = small();
        type(x, "60:0x2,90:1x4@95,5");
        due("three more", () -> x.load(0), 5);
        due("length", () -> x.scene(0, 2, 0), 60);
        due("pace", () -> x.scene(0, 2, 7), 100);
        due("piece", () -> x.scene(0, 3, 5), 1);
        due("strains", () -> x.scene(0, 3, 6), 4);
        due("pace", () -> x.scene(0, 3, 7), 95);
        due("no cue", () -> x.scene(0, 4, 5), NONE);
        due("buffer", () -> x.clearBuffer(), 0);
        for (int pace = 80; pace <= 120; pace++) {
            int due = pace;
            type(x, "2:1x9@" + pace);
            due("pace " + pace, () -> x.load(2), 1);
            due("pace " + pace, () -> x.scene(2, 0, 7), due);
            x.removeScene(2, 0);
        }
        for (String text : new String[] {"", "1,", "1:", "1:0", "1:0x", "1:0x1@", "1:0x1@8", "1:0x1@10", "0", "1a"}) {
            type(x, text);
            refused(x, "incomplete " + text, () -> x.load(1), ARGUMENT);
            refused(x, "reel, incomplete " + text, () -> x.load(3), INDEX);
            x.clearBuffer();
        }
        type(x, "1:2x1");
        refused(x, "no such piece", () -> x.load(1), STATE);
        x.clearBuffer();
        type(x, "1,1,1,1,1,1");
        refused(x, "eleven", () -> x.load(0), STATE);
        due("other reel", () -> x.load(1), 6);
        type(x, "1,1,1,1,1");
        due("ten", () -> x.load(0), 10);
        type(x, "1");
        due("undone", () -> x.undo(), 5);
        due("buffer stays", () -> x.clearBuffer(), 1);
        due("scenes", () -> x.reel(0, 0), 5);
    }

    static void undo() {
        promise = 14;
        CueSheets x = new CueSheets();
        refused(x, "nothing saved", () -> x.undo(), STATE);
        x.addScene(0, 100);
        x.addPiece(1, 20, 3);
        x.setCue(0, 0, 0, 2, 90);
        x.crank(0, 10, 20);
        x.splice(0, 5, 5);
        x.set(7, 8);
        x.fit(0);
        type(x, "77");
        long all = x.digest();
        x.removeScene(0, 0);
        due("count", () -> x.count(7), 6);
        due("removeScene", () -> x.undo(), 5);
        due("scene is back", () -> x.scene(0, 0, 5), 0);
        due("fit", () -> x.undo(), 4);
        due("pace", () -> x.scene(0, 0, 7), 90);
        due("set", () -> x.undo(), 3);
        due("tolerance", () -> x.count(4), 20);
        due("leeway", () -> x.count(5), 5);
        due("splice", () -> x.undo(), 2);
        due("splices", () -> x.reel(0, 5), 0);
        due("crank", () -> x.undo(), 1);
        due("speed", () -> x.speedAt(0, 10), 16);
        due("setCue", () -> x.undo(), 0);
        due("cue", () -> x.scene(0, 0, 5), NONE);
        due("pieces stay, their state was dropped", () -> x.count(1), 1);
        refused(x, "older ones were dropped", () -> x.undo(), STATE);
        due("buffer", () -> x.clearBuffer(), 2);
        for (int i = 0; i < 20; i++) {
            x.addScene(1, 1 + i);
            x.removeScene(1, 0);
        }
        for (int i = 5; i >= 0; i--) {
            int left = i;
            due("undo", () -> x.undo(), left);
            due("scenes", () -> x.reel(1, 0), (left + 6) % 2);
        }
    }

    static void scene() {
        promise = 15;
        CueSheets x = small();
        x.addScene(0, 50);
        x.splice(0, 95, 10);
        x.crank(0, 150, 20);
        x.setCue(0, 0, 0, 5, 100);
        x.setCue(0, 2, 1, 2, 90);
        int[][] want = {
            {100, 0, 5, 950, 0, 0, 5, 100, 0, 1080, 130, 1},
            {100, 100, 5, 850, 950, NONE, 0, 0, 0, 0, 0, 0},
            {50, 200, 0, 400, 1800, 1, 2, 90, 1800, 2000, -200, 1}};
        for (int s = 0; s < 3; s++) {
            for (int w = 0; w < 12; w++) {
                int scene = s;
                int what = w;
                due("scene(0, " + s + ", " + w + ")", () -> x.scene(0, scene, what), want[s][w]);
            }
        }
        x.setCue(0, 0, 1, 9, 80);
        x.setCue(0, 1, 0, 9, 100);
        x.setCue(0, 0, 0, 9, 80);
        // 1880 at 80 is 2350: it plays on through the second scene and past the end of the reel.
        due("begins when the music before has ended", () -> x.scene(0, 1, 8), 2350);
        due("begins behind an earlier one", () -> x.scene(0, 2, 8), 2350 + 1880);
        x.setCue(0, 1, NONE, 1, 100);
        due("over a scene without a cue", () -> x.scene(0, 2, 8), 2350);
        refused(x, "reel", () -> x.scene(3, 0, 12), INDEX);
        refused(x, "scene", () -> x.scene(0, 3, 12), INDEX);
        refused(x, "scene -1", () -> x.scene(0, -1, 0), INDEX);
        refused(x, "what 12", () -> x.scene(0, 0, 12), ARGUMENT);
        refused(x, "what -1", () -> x.scene(0, 0, -1), ARGUMENT);
    }

    static void reel() {
        promise = 16;
        CueSheets x = small();
        x.addScene(0, 50);
        x.splice(0, 95, 10);
        x.crank(0, 150, 20);
        x.setCue(0, 0, 0, 5, 100);
        x.setCue(0, 2, 1, 2, 90);
        int[] want = {3, 250, 10, 2200, 2, 1, 2, 2, 330, 2200 - 1080 - 200, 2000};
        for (int w = 0; w < 11; w++) {
            int what = w;
            due("reel(0, " + w + ")", () -> x.reel(0, what), want[w]);
        }
        x.setCue(0, 2, 0, 9, 100);
        due("what plays behind the end does not matter", () -> x.reel(0, 9), 1800 - 1080);
        due("last end", () -> x.reel(0, 10), 3680);
        x.setCue(0, 0, 0, 9, 80);
        due("music over the whole reel", () -> x.reel(0, 9), 0);
        refused(x, "reel", () -> x.reel(3, 11), INDEX);
        refused(x, "reel -1", () -> x.reel(-1, 0), INDEX);
        refused(x, "what 11", () -> x.reel(0, 11), ARGUMENT);
        refused(x, "what -1", () -> x.reel(0, -1), ARGUMENT);
    }

    static void speedAt() {
        promise = 17;
        CueSheets x = new CueSheets();
        x.crank(1, 500, 30);
        x.crank(1, 200, 10);
        int[][] want = {{0, 16}, {199, 16}, {200, 10}, {499, 10}, {500, 30}, {9000, 30}};
        for (int[] w : want) {
            due("foot " + w[0], () -> x.speedAt(1, w[0]), w[1]);
            due("other reel", () -> x.speedAt(0, w[0]), 16);
        }
        refused(x, "reel", () -> x.speedAt(3, -1), INDEX);
        refused(x, "reel -1", () -> x.speedAt(-1, 0), INDEX);
        refused(x, "foot -1", () -> x.speedAt(0, -1), ARGUMENT);
        refused(x, "foot 9001", () -> x.speedAt(0, 9001), ARGUMENT);
    }

    static void piece() {
        promise = 18;
        CueSheets x = small();
        x.addScene(1, 5);
        x.addScene(2, 5);
        x.setCue(0, 1, 0, 1, 100);
        x.setCue(1, 0, 0, 1, 100);
        x.setCue(2, 0, 1, 1, 100);
        int[] want = {50, 200, 30, 2};
        for (int w = 0; w < 4; w++) {
            int what = w;
            due("piece(0, " + w + ")", () -> x.piece(0, what), want[w]);
        }
        due("piece(1, 3)", () -> x.piece(1, 3), 1);
        refused(x, "piece 2", () -> x.piece(2, 4), INDEX);
        refused(x, "piece -1", () -> x.piece(-1, 0), INDEX);
        refused(x, "piece NONE", () -> x.piece(NONE, 0), INDEX);
        refused(x, "what 4", () -> x.piece(0, 4), ARGUMENT);
        refused(x, "what -1", () -> x.piece(0, -1), ARGUMENT);
    }

    static void count() {
        promise = 19;
        CueSheets x = small();
        x.addScene(2, 10);
        x.setCue(2, 0, 1, 1, 90);
        x.setCue(0, 0, 0, 4, 100);
        int[] want = {3, 2, 2, 1, 20, 5, 2100, 6};
        for (int w = 0; w < 8; w++) {
            int what = w;
            due("count(" + w + ")", () -> x.count(what), want[w]);
        }
        x.undo();
        due("saved states", () -> x.count(7), 5);
        refused(x, "what -1", () -> x.count(-1), ARGUMENT);
        refused(x, "what 8", () -> x.count(8), ARGUMENT);
    }

    static void bestCue() {
        promise = 20;
        CueSheets x = small();
        due("no cue before", () -> x.bestCue(0, 0, 0), 5105);
        x.setCue(0, 0, 0, 5, 105);
        due("by the cue before", () -> x.bestCue(0, 1, 0), 4095);
        due("its own cue does not count", () -> x.bestCue(0, 0, 0), 5105);
        x.setCue(0, 0, 0, 9, 80);
        due("begins too late: the shortest", () -> x.bestCue(0, 1, 0), 1105);
        x.set(20, 0);
        due("no leeway", () -> x.bestCue(0, 0, 0), 5100);
        CueSheets y = new CueSheets();
        y.addScene(0, 15);
        y.addPiece(0, 100, 0);
        // 150 tenths: one strain is 50 short, two are 50 over.
        y.set(20, 0);
        due("the fewest strains", () -> y.bestCue(0, 0, 0), 1100);
        CueSheets z = new CueSheets();
        z.crank(0, 0, 16);
        z.addScene(0, 10);
        z.addPiece(0, 20, 0);
        // 100 tenths: five strains at 100 are exact, so no other pace is nearer.
        due("exact", () -> z.bestCue(0, 0, 0), 5100);
        z.addPiece(0, 99, 0);
        // 99 at 99 is 100: exact.
        due("pace 99", () -> z.bestCue(0, 0, 1), 1099);
        z.addPiece(50, 51, 0);
        due("pace 101", () -> z.bestCue(0, 0, 2), 1101);
        refused(x, "reel", () -> x.bestCue(3, 0, 0), INDEX);
        refused(x, "scene", () -> x.bestCue(0, 2, 0), INDEX);
        refused(x, "piece", () -> x.bestCue(0, 0, 2), INDEX);
        refused(x, "piece NONE", () -> x.bestCue(0, 0, NONE), INDEX);
    }

    /** Ties: the nearer pace before the fewer strains. The lower pace alone never decides: 100 is between and as good. */
    static void bestCueTies() {
        promise = 20;
        CueSheets x = new CueSheets();
        x.addScene(0, 1);
        x.crank(0, 0, 12);
        x.addPiece(0, 13, 0);
        // 13 tenths in the scene: 13 at 100 is exact; 13 at 99 too, but farther from 100.
        due("nearest to 100", () -> x.bestCue(0, 0, 0), 1100);
        x.addPiece(0, 10, 0);
        x.set(20, 20);
        // 10 at 80 is 12, at 77 would be 13; 20 at 120 is 16: 12 at 80 to 83 is the nearest, 83 nearest to 100.
        due("nearest pace of those", () -> x.bestCue(0, 0, 1), 1083);
        CueSheets y = new CueSheets();
        y.addScene(0, 2);
        y.crank(0, 0, 16);
        y.set(20, 2);
        // 20 tenths: 10 + 11 is 21 at 100 and 99, 20 at 101 and 102.
        y.addPiece(10, 11, 0);
        due("101", () -> y.bestCue(0, 0, 0), 1101);
        CueSheets z = new CueSheets();
        z.addScene(0, 100);
        z.addPiece(0, 495, 10);
        z.set(20, 1);
        // 1000 tenths: 2 strains are 1000 at 100, exact.
        due("exact again", () -> z.bestCue(0, 0, 0), 2100);
        z.addPiece(500, 500, 0);
        due("one strain", () -> z.bestCue(0, 0, 1), 1100);
        CueSheets w = new CueSheets();
        w.addScene(0, 10);
        w.addPiece(0, 101, 0);
        // 101 at 100 is 101 and at 101 is 100; at 102 it is 99: exact at 101.
        due("101 again", () -> w.bestCue(0, 0, 0), 1101);
        CueSheets v = new CueSheets();
        v.addScene(0, 1);
        v.addScene(0, 1);
        v.crank(0, 0, 10);
        v.addPiece(0, 32, 0);
        v.set(20, 20);
        v.setCue(0, 0, 0, 1, 100);
        // The cue would begin at 32, where its scene ends: the shortest music, 32 at 117 to 120, is 27; 27 at 117 first.
        due("shortest, pace nearest to 100", () -> v.bestCue(0, 1, 0), shortest(32));
        CueSheets u = new CueSheets();
        u.addScene(0, 150);
        u.addPiece(0, 150, 0);
        u.addPiece(0, 998, 0);
        u.set(20, 1);
        // 1500 tenths: ten strains are too many; 9 at 99 are 1363, so the drift is 137 in size.
        due("the most strains", () -> u.bestCue(0, 0, 0), 9099);
        // 998 at 99 is 1008 (drift -492), 1996 at 101 is 1976 (476).
        due("two strains", () -> u.bestCue(0, 0, 1), 2101);
        betweenTwo();
        manyTies();
    }

    static long shortest(int strain) {
        int pace = 100;
        for (int p = 100; p <= 120; p++) {
            pace = strain * 100 / p < strain * 100 / pace ? p : pace;
        }
        return 1000 + pace;
    }

    static void betweenTwo() {
        CueSheets x = new CueSheets();
        x.addScene(0, 15);
        x.addPiece(0, 99, 0);
        x.set(20, 2);
        // 150 tenths: one strain is 101 at 98 (49 short), two are 194 at 102 (44 over).
        due("over", () -> x.bestCue(0, 0, 0), 2102);
        CueSheets y = new CueSheets();
        y.addScene(0, 14);
        y.crank(0, 13, 17);
        y.addPiece(0, 93, 0);
        y.set(20, 2);
        // 139 tenths: one strain is 94 at 98 (45 short), two are 182 at 102 (43 over).
        due("over again", () -> y.bestCue(0, 0, 0), 2102);
    }

    static int paceTies = 0;
    static int strainTies = 0;

    /** Goes through many small scenes; in some, the least size is reached at several paces, or strains at one distance. */
    static void manyTies() {
        for (int feet = 1; feet <= 60; feet++) {
            for (int strain = 10; strain <= 120; strain++) {
                CueSheets x = new CueSheets();
                x.addScene(0, feet);
                x.addPiece(0, strain, 0);
                x.set(20, 20);
                long want = searched(10 * feet, strain);
                due(feet + " feet, strain " + strain, () -> x.bestCue(0, 0, 0), want);
            }
        }
        check("there are ties of paces", Boolean.toString(paceTies > 50), "true");
        check("there are ties of strains", Boolean.toString(strainTies > 5), "true");
    }

    static long searched(int room, int strain) {
        int size = Integer.MAX_VALUE;
        for (int n = 1; n <= 9; n++) {
            for (int pace = 80; pace <= 120; pace++) {
                size = Math.min(size, Math.abs(n * strain * 100 / pace - room));
            }
        }
        long answer = 0;
        int distance = 99;
        int found = 0;
        for (int n = 1; n <= 9; n++) {
            for (int pace = 80; pace <= 120; pace++) {
                if (Math.abs(n * strain * 100 / pace - room) == size) {
                    int d = Math.abs(pace - 100);
                    paceTies += found > 0 && d != distance ? 1 : 0;
                    strainTies += found > 0 && d == distance ? 1 : 0;
                    found++;
                    if (d < distance) {
                        distance = d;
                        answer = 1000 * n + pace;
                    }
                }
            }
        }
        return answer;
    }

    static void bestPiece() {
        promise = 21;
        CueSheets x = new CueSheets();
        x.addScene(0, 100);
        due("no pieces", () -> x.bestPiece(0, 0), NONE);
        x.addPiece(50, 200, 30);
        due("one", () -> x.bestPiece(0, 0), 0);
        x.addPiece(0, 100, 99);
        due("better", () -> x.bestPiece(0, 0), 1);
        x.addPiece(0, 500, 0);
        x.addPiece(0, 250, 0);
        due("exact, the lowest", () -> x.bestPiece(0, 0), 2);
        x.set(20, 0);
        due("exact without leeway, the lowest", () -> x.bestPiece(0, 0), 2);
        x.setCue(0, 0, 0, 1, 100);
        due("its own cue does not count", () -> x.bestPiece(0, 0), 2);
        x.addScene(0, 10);
        x.setCue(0, 0, 0, 5, 100);
        // From 1080 to 1100 there are 20, and 280, 199, 500 and 250 are the shortest.
        due("behind a late cue", () -> x.bestPiece(0, 1), 1);
        refused(x, "reel", () -> x.bestPiece(3, 0), INDEX);
        refused(x, "scene", () -> x.bestPiece(0, 2), INDEX);
        refused(x, "scene -1", () -> x.bestPiece(0, -1), INDEX);
    }

    static void ifCranked() {
        promise = 22;
        CueSheets x = small();
        x.crank(0, 100, 30);
        x.splice(0, 0, 10);
        x.setCue(0, 0, 0, 4, 100);
        x.setCue(0, 1, 1, 9, 90);
        // 90 and 100 feet: at 16 they end at 900 and 1900, the cues at 880 and 1800; at 30 at 450 and 950.
        due("16", () -> x.ifCranked(0, 16), 1);
        due("30", () -> x.ifCranked(0, 30), 2);
        due("10", () -> x.ifCranked(0, 10), 2);
        due("speeds stay", () -> x.speedAt(0, 100), 30);
        due("no cues", () -> x.ifCranked(1, 10), 0);
        x.set(100, 5);
        due("16 with more tolerance", () -> x.ifCranked(0, 16), 0);
        refused(x, "reel", () -> x.ifCranked(3, 9), INDEX);
        refused(x, "reel -1", () -> x.ifCranked(-1, 10), INDEX);
        refused(x, "speed 9", () -> x.ifCranked(0, 9), ARGUMENT);
        refused(x, "speed 31", () -> x.ifCranked(0, 31), ARGUMENT);
    }

    static void bestSpeed() {
        promise = 23;
        CueSheets x = small();
        due("no cues: the lowest", () -> x.bestSpeed(0), 10);
        due("no scenes: the lowest", () -> x.bestSpeed(1), 10);
        x.setCue(0, 0, 0, 4, 100);
        // 880: 100 feet at 18 take 800, at 17 900.
        due("17", () -> x.bestSpeed(0), 17);
        x.setCue(0, 0, 1, 9, 100);
        // 810: at 18, 19 and 20 they take 800, but 19 and 20 too: the lowest.
        due("18", () -> x.bestSpeed(0), 18);
        x.setCue(0, 0, 1, 5, 100);
        // 450: at 27 to 30 they take 500.
        due("27", () -> x.bestSpeed(0), 27);
        refused(x, "reel 3", () -> x.bestSpeed(3), INDEX);
        refused(x, "reel -1", () -> x.bestSpeed(-1), INDEX);
    }

    static void offShare() {
        promise = 24;
        CueSheets x = small();
        x.setCue(0, 0, 0, 4, 100);
        due("share", () -> Float.floatToRawIntBits(x.offShare(0)), Float.floatToRawIntBits(120.0f / 2000.0f));
        due("no scenes", () -> Float.floatToRawIntBits(x.offShare(1)), 0);
        x.addScene(1, 10);
        due("no cues", () -> Float.floatToRawIntBits(x.offShare(1)), 0);
        x.splice(1, 0, 50);
        x.setCue(1, 0, 0, 1, 100);
        due("no time", () -> Float.floatToRawIntBits(x.offShare(1)), 0);
        refused(x, "reel 3", () -> (long) x.offShare(3), INDEX);
        refused(x, "reel -1", () -> (long) x.offShare(-1), INDEX);
    }

    static void meanSpeed() {
        promise = 25;
        CueSheets x = small();
        due("16", () -> Double.doubleToRawLongBits(x.meanSpeed(0)), Double.doubleToRawLongBits(16.0));
        x.crank(0, 100, 11);
        x.splice(0, 95, 10);
        // 95 feet at 10, 95 at 14.
        due("mixed", () -> Double.doubleToRawLongBits(x.meanSpeed(0)), Double.doubleToRawLongBits(3040.0 / 228.0));
        due("no scenes", () -> Double.doubleToRawLongBits(x.meanSpeed(1)), 0);
        x.addScene(1, 10);
        x.splice(1, 0, 50);
        due("no time", () -> Double.doubleToRawLongBits(x.meanSpeed(1)), 0);
        refused(x, "reel 3", () -> (long) x.meanSpeed(3), INDEX);
        refused(x, "reel -1", () -> (long) x.meanSpeed(-1), INDEX);
    }

    static void digest() {
        promise = 26;
        CueSheets x = new CueSheets();
        long empty = Digests.of(x, "");
        due("new object", () -> x.digest(), empty);
        type(x, "9~!");
        long text = Digests.of(x, "9~!");
        due("with a buffer", () -> x.digest(), text);
        x.clearBuffer();
        x.addScene(0, 100);
        x.addScene(2, 77);
        long scenes = Digests.of(x, "");
        due("with scenes, no pieces", () -> x.digest(), scenes);
        x.addPiece(50, 200, 30);
        x.addPiece(3, 71, 1);
        x.setCue(0, 0, 1, 7, 97);
        x.setCue(2, 0, 0, 3, 104);
        x.crank(0, 40, 11);
        x.crank(2, 400, 23);
        x.splice(0, 30, 13);
        x.splice(2, 76, 13);
        type(x, "12:0x1");
        long full = Digests.of(x, "12:0x1");
        due("with all", () -> x.digest(), full);
        due("nothing is changed", () -> x.digest(), full);
        due("not undoable", () -> x.count(7), 6);
    }

    public static void main(String[] args) {
        newObject();
        addScene();
        removeScene();
        crank();
        splice();
        addPiece();
        setCue();
        fit();
        set();
        append();
        clearBuffer();
        firstError();
        load();
        undo();
        scene();
        reel();
        speedAt();
        piece();
        count();
        bestCue();
        bestCueTies();
        bestPiece();
        ifCranked();
        bestSpeed();
        offShare();
        meanSpeed();
        digest();
        System.out.println(wrong == 0 ? "all promises hold" : wrong + " answers are not as due");
        if (wrong != 0) {
            System.exit(1);
        }
    }
}
