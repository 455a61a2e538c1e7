/** The boundary cases that promises 19 and 22 to 26 name, those of all reels, the order of exceptions, and the 512th call. */
public final class AnswerBoundariesTest {
    static final Sentences S = new Sentences();
    static final int[] FOOT_TIMES = {16, 14, 13, 12, 11, 10, 10, 9, 8, 8, 8, 7, 7, 6, 6, 6, 6, 5, 5, 5, 5};

    /** Each reel has a scene of 10 feet with a cue of 95, so that a call has the same answer on each of them. */
    static void reels() {
        String before = "addPiece(0, 95, 0); addScene(0, 10); addScene(1, 10); addScene(2, 10); setCue(0, 0, 0, 1, 100);"
                + "setCue(1, 0, 0, 1, 100); setCue(2, 0, 0, 1, 100); type 5:0x1; ";
        String[] calls = {"addScene(R, 5) = 1", "removeScene(R, 0) = 0", "crank(R, 7, 20) = 2", "splice(R, 7, 2) = 1",
                "setCue(R, 0, 0, 2, 100) = 90", "fit(R) = 1", "load(R) = 2",
                "scene(R, 0, 3) = 100", "reel(R, 8) = 5", "speedAt(R, 9000) = 16", "bestCue(R, 0, 0) = 1095",
                "bestPiece(R, 0) = 0", "ifCranked(R, 30) = 1", "bestSpeed(R) = 15",
                "offShare(R) = 0.05", "meanSpeed(R) = 16.0"};
        for (String call : calls) {
            for (int reel = 0; reel < 3; reel++) {
                S.holds("terms: there are 3 reels, " + call, before, call.replace("R", Integer.toString(reel)));
            }
            String bare = call.substring(0, call.indexOf('='));
            for (int reel : new int[] {-1, 3, Integer.MIN_VALUE, Integer.MAX_VALUE, CueSheets.NONE}) {
                S.holds("terms: there are 3 reels, " + call, before, bare.replace("R", Integer.toString(reel)) + "! index",
                        call.replace("R", "2"));
            }
        }
    }

    /** Every argument is out of range, or one behind the first; the exception that the clause names first is thrown. */
    static void exceptionOrder() {
        String full = "8 * addPiece(0, 10, 0); 10 * addScene(0, 5); crank(0, 1, 11); crank(0, 2, 11); crank(0, 3, 11);"
                + "crank(0, 4, 11); crank(0, 5, 11); splice(0, 0, 1); splice(0, 1, 1); splice(0, 2, 1); splice(0, 3, 1);"
                + "splice(0, 4, 1); splice(0, 5, 1); type 1,1,1,1,1,1,1,1,1,1,1,1,1,1,1,1,1,1,1,1,1,1,1,1,1,1,1,1,1,1,; ";
        String[] rows = {
                "addScene(3, 5) ! index", "addScene(3, 0) ! index", "addScene(-1, 901) ! index", "addScene(0, 0) ! argument",
                "addScene(0, 901) ! argument", "addScene(0, 5) ! state",
                "removeScene(3, 0) ! index", "removeScene(0, 10) ! index", "removeScene(3, -1) ! index",
                "crank(3, -1, 9) ! index", "crank(3, 6, 11) ! index", "crank(0, -1, 11) ! argument",
                "crank(0, 6, 31) ! argument", "crank(0, 9001, 9) ! argument", "crank(0, 6, 11) ! state",
                "splice(-1, 9001, 51) ! index", "splice(-1, 6, 1) ! index", "splice(0, -1, 1) ! argument",
                "splice(0, 6, 51) ! argument", "splice(0, 6, -1) ! argument", "splice(0, 9001, 0) ! argument",
                "splice(0, 6, 1) ! state",
                "addPiece(-1, 10, 0) ! argument", "addPiece(0, 9, 0) ! argument", "addPiece(0, 10, 601) ! argument",
                "addPiece(601, 1201, 601) ! argument", "addPiece(0, 10, 0) ! state",
                "setCue(3, 0, 0, 0, 79) ! index", "setCue(0, 10, 0, 0, 79) ! index", "setCue(0, 0, 8, 0, 79) ! index",
                "setCue(3, 0, NONE, 10, 121) ! index", "setCue(0, 10, NONE, 10, 121) ! index",
                "setCue(0, 0, 0, 0, 79) ! argument", "setCue(0, 0, NONE, 10, 121) ! argument",
                "setCue(0, 0, 0, 10, 100) ! argument", "setCue(0, 0, 0, 1, 79) ! argument",
                "fit(3) ! index", "set(-1, 21) ! argument", "append(32) ! argument", "append(127) ! argument",
                "append(33) ! state", "load(3) ! index", "load(0) ! argument",
                "scene(3, 0, 12) ! index", "scene(0, 10, 12) ! index", "scene(0, 0, 12) ! argument", "reel(3, 11) ! index",
                "reel(0, 11) ! argument", "speedAt(3, 9001) ! index", "speedAt(0, 9001) ! argument",
                "piece(8, 4) ! index", "piece(-1, -1) ! index", "piece(0, 4) ! argument", "count(8) ! argument",
                "bestCue(3, 0, 0) ! index", "bestCue(0, 10, 0) ! index", "bestCue(0, 0, 8) ! index",
                "bestPiece(3, 0) ! index", "bestPiece(0, 10) ! index", "ifCranked(3, 9) ! index", "ifCranked(0, 9) ! argument",
                "bestSpeed(3) ! index", "offShare(3) ! index", "meanSpeed(3) ! index"};
        for (String row : rows) {
            S.holds("exceptions: the one that is named first, all full", full, row, "undo() = 5");
        }
        String[] texts = {"1,1;load(3) ! index; load(0) ! state", "1,;load(3) ! index; load(0) ! argument",
                "1:0x1,;load(3) ! index; load(0) ! argument", "1:0x1;load(3) ! index; load(1) ! state",
                "0;load(3) ! index; load(1) ! argument"};
        for (String text : texts) {
            S.holds("exceptions: the one that load names first", "9 * addScene(0, 5); type " + text + "; clearBuffer()");
        }
        S.holds("exceptions: too many scenes and no such piece", "10 * addScene(0, 5); type 1:0x1; load(0) ! state;"
                + "clearBuffer() = 5");
    }

    static void count() {
        S.range("19: what 0 to 7", "addScene(0, 1); ", "count(%)", 0, 7, "argument");
        S.holds("19: nothing there", "count(0) = 0; count(1) = 0; count(2) = 0; count(3) = 0; count(4) = 20; count(5) = 5;"
                + "count(6) = 0; count(7) = 0");
        S.holds("19: of all reels", "addPiece(0, 10, 0); addScene(0, 10); 2 * addScene(1, 20); 3 * addScene(2, 5);"
                + "count(0) = 6; count(6) = 650; setCue(0, 0, 0, 1, 100); setCue(1, 1, 0, 1, 100); setCue(2, 2, 0, 1, 100);"
                + "count(2) = 3; count(3) = 3; crank(1, 0, 20); splice(2, 0, 5); count(6) = 520; set(90, 5); count(3) = 1;"
                + "set(600, 20); count(3) = 0; count(4) = 600; count(5) = 20; count(7) = 6");
        S.holds("19: all full", "8 * addPiece(0, 10, 0); 10 * addScene(0, 900); 10 * addScene(1, 900);"
                + "10 * addScene(2, 900); crank(0, 0, 10); crank(1, 0, 10); crank(2, 0, 10); count(0) = 30; count(1) = 8;"
                + "count(6) = 432000; count(7) = 6; count(2) = 0; count(8) ! argument; count(7) = 6");
    }

    static void ifCranked() {
        String before = "addScene(0, 10); addPiece(0, 120, 0); addPiece(0, 121, 0); addPiece(0, 80, 0); ";
        S.range("22: speed 10 to 30", before + "setCue(0, 0, 0, 1, 100); ", "ifCranked(0, %)", 10, 30, "argument");
        S.holds("22: no scenes", "ifCranked(0, 10) = 0; ifCranked(0, 30) = 0; ifCranked(2, 16) = 0");
        S.holds("22: no cues", before + "ifCranked(0, 10) = 0; ifCranked(0, 30) = 0");
        S.holds("22: at the tolerance, and above it", before + "setCue(0, 0, 0, 1, 100) = 20; ifCranked(0, 16) = 0;"
                + "setCue(0, 0, 1, 1, 100) = 21; ifCranked(0, 16) = 1");
        S.holds("22: in place of its speeds", before + "crank(0, 0, 30); crank(0, 5, 10); setCue(0, 0, 0, 1, 100) = 15;"
                + "setCue(0, 0, 2, 1, 100) = -25; reel(0, 7) = 1; ifCranked(0, 16) = 0; ifCranked(0, 10) = 1;"
                + "ifCranked(0, 30) = 1; reel(0, 7) = 1; reel(0, 4) = 2");
        S.holds("22: a lost foot takes no time at any speed", before + "splice(0, 5, 2); setCue(0, 0, 2, 1, 100) = 0;"
                + "ifCranked(0, 16) = 0; ifCranked(0, 13) = 0; ifCranked(0, 12) = 1; ifCranked(0, 24) = 1; splice(0, 0, 50);"
                + "ifCranked(0, 10) = 1");
        S.holds("22: ten bad drifts", "10 * addScene(0, 1); addPiece(0, 41, 0); " + Sentences.cues(10, 0, 1, 100)
                + "ifCranked(0, 10) = 10; ifCranked(0, 30) = 10");
        S.holds("22: cues begin by that speed", "2 * addScene(0, 10); addPiece(0, 100, 0); setCue(0, 1, 0, 1, 100) = 0;"
                + "ifCranked(0, 16) = 0; ifCranked(0, 14) = 0; ifCranked(0, 13) = 0; ifCranked(0, 12) = 1;"
                + "ifCranked(0, 17) = 0; ifCranked(0, 20) = 0; ifCranked(0, 21) = 1");
        S.same("22: nothing is changed", before + "setCue(0, 0, 0, 1, 100); ", "ifCranked(0, 30)", "");
    }

    static void bestSpeed() {
        String before = "addScene(0, 100); ";
        S.holds("23: no scenes, the lowest", "bestSpeed(0) = 10; bestSpeed(1) = 10; bestSpeed(2) = 10");
        S.holds("23: no cues, the lowest", before + "crank(0, 0, 30); bestSpeed(0) = 10");
        S.holds("23: no time, the lowest", "addScene(0, 10); splice(0, 0, 10); addPiece(0, 50, 0); setCue(0, 0, 0, 1, 100);"
                + "crank(0, 0, 30); bestSpeed(0) = 10");
        for (int speed = 10; speed <= 30; speed++) {
            int lowest = speed;
            while (lowest > 10 && FOOT_TIMES[lowest - 11] == FOOT_TIMES[speed - 10]) {
                lowest--;
            }
            S.holds("23: of several the lowest one, as at " + speed, "addScene(0, 50); addPiece(0, "
                    + 50 * FOOT_TIMES[speed - 10] + ", 0); setCue(0, 0, 0, 1, 100); crank(0, 0, " + speed
                    + "); reel(0, 8) = 0; bestSpeed(0) = " + lowest);
        }
        S.holds("23: slower than 10 would be better", "addScene(0, 10); addPiece(0, 1200, 0); setCue(0, 0, 0, 9, 80);"
                + "bestSpeed(0) = 10");
        S.holds("23: faster than 30 would be better", before + "addPiece(0, 10, 0); setCue(0, 0, 0, 1, 120);"
                + "bestSpeed(0) = 27");
        S.holds("23: too long and too short by the same", "addScene(0, 10); addPiece(0, 155, 0); setCue(0, 0, 0, 1, 100);"
                + "bestSpeed(0) = 10; addPiece(0, 150, 0); setCue(0, 0, 1, 1, 100); bestSpeed(0) = 10; addPiece(0, 149, 0);"
                + "setCue(0, 0, 2, 1, 100); bestSpeed(0) = 11");
        S.holds("23: the sum of the sizes, not of the drifts", "2 * addScene(0, 10); addPiece(0, 60, 0); addPiece(0, 90, 0);"
                + "setCue(0, 0, 1, 1, 100); setCue(0, 1, 0, 1, 100); bestSpeed(0) = 18; reel(0, 8) = 50");
        S.same("23: nothing is changed", "addScene(0, 10); addPiece(0, 60, 0); setCue(0, 0, 0, 1, 100); ", "bestSpeed(0)",
                "");
    }

    static void shares() {
        S.holds("24: no scenes", "offShare(0) = 0.0; offShare(1) = 0.0; offShare(2) = 0.0");
        S.holds("24: no cues", "addScene(0, 10); offShare(0) = 0.0");
        S.holds("24: no drifts", "addScene(0, 10); addPiece(0, 100, 0); setCue(0, 0, 0, 1, 100) = 0; offShare(0) = 0.0");
        S.holds("24: 0.0f without time, though there is a drift", "addScene(0, 10); splice(0, 0, 10); addPiece(0, 100, 0);"
                + "setCue(0, 0, 0, 1, 100) = 100; reel(0, 3) = 0; offShare(0) = 0.0; splice(0, 0, 9); offShare(0) = 9.0");
        S.holds("24: as a float", "addScene(0, 3); addPiece(0, 20, 0); setCue(0, 0, 0, 1, 100) = -10; offShare(0) = "
                + 10.0f / 30.0f + "; crank(0, 0, 10); offShare(0) = " + 28.0f / 48.0f);
        S.holds("24: the greatest share", "addScene(0, 1); crank(0, 0, 30); addPiece(600, 1200, 600);"
                + "setCue(0, 0, 0, 9, 80) = 14995; offShare(0) = 2999.0");
        S.holds("24: a share that is next to nothing", "addScene(0, 1); 9 * addScene(0, 900); crank(0, 0, 10);"
                + "addPiece(0, 17, 0); setCue(0, 0, 0, 1, 100) = 1; offShare(0) = " + 1.0f / 129616.0f + "; digest()");
        S.holds("25: no scenes", "meanSpeed(0) = 0.0; meanSpeed(1) = 0.0; meanSpeed(2) = 0.0; crank(0, 0, 30);"
                + "meanSpeed(0) = 0.0");
        S.holds("25: 0.0 without time", "addScene(0, 10); splice(0, 0, 10); meanSpeed(0) = 0.0; splice(0, 0, 9);"
                + "meanSpeed(0) = 16.0");
        for (int i = 0; i < FOOT_TIMES.length; i++) {
            S.holds("25: as a double, at " + (10 + i), "addScene(0, 7); crank(0, 0, " + (10 + i) + "); meanSpeed(0) = "
                    + 7.0 * 16.0 / (7 * FOOT_TIMES[i] / 10.0));
        }
        S.holds("25: lost feet have no frames", "addScene(0, 10); crank(0, 5, 10); splice(0, 5, 5); meanSpeed(0) = 16.0;"
                + "splice(0, 5, 4); meanSpeed(0) = " + 96.0 / 6.6);
        S.holds("25: a full reel", "10 * addScene(0, 900); meanSpeed(0) = 16.0; crank(0, 8999, 30); meanSpeed(0) = "
                + 144000.0 / 8999.5);
    }

    static void digest() {
        digestIs("26: a new object", "");
        digestIs("26: no pieces, but scenes", "3 * addScene(1, 5); ");
        digestIs("26: no scenes, but pieces", "addPiece(1, 20, 3); addPiece(600, 1200, 600); ");
        digestIs("26: one character", "type !");
        digestIs("26: a full buffer", "40 * append(126); 20 * append(33); ");
        digestIs("26: an emptied buffer", "type 123; clearBuffer(); ");
        digestIs("26: no time", "addScene(0, 10); splice(0, 0, 50); addPiece(0, 10, 0); setCue(0, 0, 0, 9, 80); ");
        String ten = "type 1:0x1,2:1x2,3:2x3,4:3x4,5:4x5,6:5x6,7:6x7,8:7x8,9:0x9,10; ";
        digestIs("26: all full", "addPiece(600, 1200, 600); 7 * addPiece(3, 70, 5); " + ten + "load(0); " + ten
                + "load(1); " + ten + "load(2); crank(1, 900, 10); crank(1, 3, 30); crank(1, 4, 11); crank(1, 5, 27);"
                        + "crank(1, 9000, 10); splice(2, 1, 50); splice(2, 0, 50); splice(2, 2, 1); set(600, 20); type 0;");
        digestIs("26: a share that is next to nothing", "addScene(0, 1); 9 * addScene(0, 900); crank(0, 0, 10);"
                + "addPiece(0, 17, 0); setCue(0, 0, 0, 1, 100); ");
        digestIs("26: the greatest share", "addScene(0, 1); crank(0, 0, 30); addPiece(600, 1200, 600);"
                + "setCue(0, 0, 0, 9, 80); ");
        digestIs("26: the speed at foot 900", "crank(0, 900, 17); crank(1, 899, 18); crank(2, 800, 19); ");
        S.holds("26: the speed at foot 901 does not count", "crank(0, 901, 17); ", "digest() = "
                + Sentences.digestOf("crank(0, 902, 18); "));
        S.holds("26: not undoable", "digest(); count(7) = 0; addScene(0, 1); digest(); count(7) = 1");
    }

    /** The last calls of a run of 512 stand behind all others, with the room for saved states gone round again and again. */
    static void lastCalls() {
        S.holds("what it is: 512 calls, changes", "500 * crank(0, 5, 20) = 2; 3 * append(49); 5 * addScene(0, 7); undo() = 5;"
                + "reel(0, 0) = 4; clearBuffer() = 3; undo() = 4");
        S.holds("what it is: 512 calls, questions", "addScene(0, 10); addPiece(0, 95, 0); setCue(0, 0, 0, 1, 100) = -5;"
                + "507 * digest(); bestCue(0, 0, 0) = 1095; digest() = "
                + Sentences.digestOf("addScene(0, 10); addPiece(0, 95, 0); setCue(0, 0, 0, 1, 100)"));
        S.holds("what it is: 512 calls, refused ones", "255 * undo() ! state; 255 * addScene(3, 5) ! index;"
                + "addScene(0, 5) = 0; undo() = 0");
    }

    /** The hash of the list that the promise tells, from the answers of the other calls. */
    static void digestIs(String sentence, String before) {
        S.holds(sentence, before, "digest() = " + Sentences.digestOf(before));
    }

    public static void main(String[] args) {
        reels();
        exceptionOrder();
        count();
        ifCranked();
        bestSpeed();
        shares();
        digest();
        lastCalls();
        S.end();
    }
}
