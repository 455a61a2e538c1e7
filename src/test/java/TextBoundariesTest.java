/** The boundary cases that promises 10 to 14 name, with the terms of the input text and of undo. */
public final class TextBoundariesTest {
    static final Sentences S = new Sentences();
    /** 59 characters: ten scenes, each with a cue. */
    static final String TEN = "1:0x1,1:0x1,1:0x1,1:0x1,1:0x1,1:0x1,1:0x1,1:0x1,1:0x1,1:0x1";
    /** 60 characters: thirty scenes, and the comma behind the last one. */
    static final String THIRTY = "1,1,1,1,1,1,1,1,1,1,1,1,1,1,1,1,1,1,1,1,1,1,1,1,1,1,1,1,1,1,";

    static void append() {
        S.range("10: code 33 to 126", "", "append(%)", 33, 126, "argument");
        S.range("10: code 33 to 126, behind others", "type 1,2", "append(%)", 33, 126, "argument");
        S.holds("10: the new length", "append(126) = 1; append(33) = 2; append(49) = 3; clearBuffer() = 3; append(49) = 1");
        S.holds("10: at most 60 characters, refused when the buffer has 60",
                "58 * append(49); append(49) = 59; append(50) = 60; append(51) ! state; append(51) ! state;"
                        + "clearBuffer() = 60; append(51) = 1; firstError() = 1");
        S.holds("10: not undoable", "append(49) = 1; count(7) = 0; undo() ! state; clearBuffer() = 1");
    }

    static void clearBuffer() {
        S.holds("11: empty", "clearBuffer() = 0; clearBuffer() = 0; append(49) = 1");
        S.holds("11: one character", "append(49); clearBuffer() = 1; clearBuffer() = 0");
        S.holds("11: full", "type " + THIRTY, "clearBuffer() = 60; clearBuffer() = 0; firstError() = 0; append(48) = 1;"
                + "firstError() = 0");
        S.holds("11: not undoable", "addScene(0, 1); append(49); clearBuffer() = 1; count(7) = 1; undo() = 0;"
                + "clearBuffer() = 0");
    }

    static void good(String sentence, String... texts) {
        for (String text : texts) {
            S.holds("12: " + sentence + ", no error in " + text, "type " + text, "firstError() = " + text.length() + ";"
                    + "count(7) = 0; clearBuffer() = " + text.length());
        }
    }

    /** The texts are wrong at their last character, and not before it; what comes behind does not matter. */
    static void bad(String sentence, String... texts) {
        for (String text : texts) {
            int last = text.length() - 1;
            if (last > 0) {
                good(sentence, text.substring(0, last));
            }
            S.holds("12: " + sentence + ", an error at the end of " + text, "type " + text, "firstError() = " + last + ";"
                    + "type ,1; firstError() = " + last + "; load(0) ! argument");
        }
    }

    static void firstError() {
        S.holds("12: empty", "firstError() = 0; type 1; firstError() = 1; clearBuffer(); firstError() = 0");
        good("lengths 1 to 900", "1", "9", "10", "99", "100", "899", "900", "1,1", "900,900", "1,900");
        bad("lengths 1 to 900", "0", "901", "902", "909", "910", "999", "1000", "9000", "1,0", "1,901");
        S.holds("12: no leading zeros in lengths", "type 00", "firstError() = 0; clearBuffer(); type 01; firstError() = 0;"
                + "clearBuffer(); type 0900; firstError() = 0; clearBuffer(); type 5,01; firstError() = 2");
        good("pieces 0 to 7", "5:0", "5:7", "5:7x1");
        bad("pieces 0 to 7", "5:8", "5:9", "5:00", "5:10", "5:77");
        good("strains 1 to 9", "5:0x1", "5:0x9");
        bad("strains 1 to 9", "5:0x0", "5:0x10", "5:0x11", "5:0x99");
        good("paces 80 to 120", "5:0x1@8", "5:0x1@9", "5:0x1@1", "5:0x1@10", "5:0x1@11", "5:0x1@12", "5:0x1@80", "5:0x1@81",
                "5:0x1@89", "5:0x1@90",
                "5:0x1@99", "5:0x1@100", "5:0x1@109", "5:0x1@110", "5:0x1@119", "5:0x1@120", "5:0x1@80,1", "5:0x1@120,1");
        bad("paces 80 to 120", "5:0x1@2", "5:0x1@3", "5:0x1@4", "5:0x1@5", "5:0x1@6", "5:0x1@7", "5:0x1@13", "5:0x1@19",
                "5:0x1@121", "5:0x1@129",
                "5:0x1@800", "5:0x1@999", "5:0x1@1000", "5:0x1@1200", "5:0x1@1201");
        bad("no leading zeros in paces", "5:0x1@0");
        S.holds("12: no leading zeros in paces", "type 5:0x1@080", "firstError() = 6; clearBuffer(); type 5:0x1@0100;"
                + "firstError() = 6");
        bad("a pace that is not whole", "5:0x1@,", "5:0x1@8,", "5:0x1@9,", "5:0x1@1,", "5:0x1@10,", "5:0x1@11,",
                "5:0x1@12,");
        good("one or more scenes", "1,", "1:0x1,", "1:0x1@80,");
        bad("one or more scenes", ",", "1,,", "1:0x1,,", "1:0x1@80,,");
        bad("a cue behind its length alone", ":", "1,:", "1::", "1:0:", "1:0x:", "1:0x1:", "1:0x1@:", "1:0x1@80:");
        bad("x behind a piece alone", "x", "1x", "1,x", "1:x", "1:0xx", "1:0x1x", "1:0x1@x", "1:0x1@80x");
        bad("@ behind strains alone", "@", "1@", "1,@", "1:@", "1:0@", "1:0x@", "1:0x1@@", "1:0x1@80@");
        bad("a cue is whole", "1:,", "1:0,", "1:0x,");
        bad("other characters", "!", "~", "/", "1/", "1<", "1:/", "1:0X", "1:0y", "1:0x/", "1:0x1?", "1:0x1A", "1:0x1@/",
                "1:0x1@8/", "1:0x1@80/", "1-", "1.");
        good("which pieces there are is no question of syntax", "5:7x9", "1:0x1,1:1x1,1:7x1");
        good("a sheet of any length: more than ten scenes", "1,1,1,1,1,1,1,1,1,1,1", "1,1,1,1,1,1,1,1,1,1,1,1:0x1", THIRTY);
        good("a sheet of any length: one that goes on behind 60 characters", TEN + ",", TEN + "@", THIRTY.substring(0, 58)
                + "1:", THIRTY.substring(0, 56) + "1:0x", TEN.substring(0, 54) + "1:0x1@");
        for (String sign : new String[] {":", "0", "x", "!", "~"}) {
            S.holds("12: an error at the last of 60 characters", "type " + TEN + sign, "firstError() = 59;"
                    + "append(49) ! state; load(0) ! argument; firstError() = 59; clearBuffer() = 60");
        }
        S.holds("12: the first error of several", "type 0,0,x,901", "firstError() = 0; clearBuffer(); type 1,0,0;"
                + "firstError() = 2; clearBuffer(); type 1,1:9x0; firstError() = 4");
        S.holds("12: mended by starting again", "type 1,0", "firstError() = 2; clearBuffer() = 3; type 1,1;"
                + "firstError() = 3; firstError() = 3");
    }

    static void loadSheets() {
        for (String text : new String[] {"1", "900", "1:0x1", "1:0x9@80", "1:0x1@99", "1:0x1@100", "1:0x1@120"}) {
            S.holds("13: a complete sheet, " + text, "addPiece(0, 10, 0); type " + text, "load(1) = 1; clearBuffer() = 0;"
                    + "load(1) ! argument");
        }
        for (String text : new String[] {"1,", "1:", "1:0", "1:0x", "1:0x1@", "1:0x1@8", "1:0x1@9", "1:0x1@1", "1:0x1@10",
                "1:0x1@11", "1:0x1@12", "1,1,", "1:0x1,",
            "0", "901", "1,0", "1:8", "1:0x0", "1:0x1@121", "1:0x1@79", "1a", "a1", "1,,1"}) {
            S.holds("13: no complete sheet, " + text, "addPiece(0, 10, 0); type " + text, "load(1) ! argument;"
                    + "reel(1, 0) = 0; clearBuffer() = " + text.length() + "; type 5; load(1) = 1");
        }
        S.holds("13: an empty buffer is no sheet", "load(0) ! argument; load(2) ! argument; append(49) = 1; load(0) = 1;"
                + "load(0) ! argument");
        S.holds("13: what is incomplete is completed", "addPiece(0, 10, 0); type 7:0x2@12; load(0) ! argument;"
                + "append(48) = 9; load(0) = 1; scene(0, 0, 7) = 120");
        S.holds("13: 100 without a pace", "addPiece(0, 10, 0); type 1:0x3,2:0x4@80,3:0x5", "load(0) = 3;"
                + "scene(0, 0, 7) = 100; scene(0, 1, 7) = 80; scene(0, 2, 7) = 100; scene(0, 2, 6) = 5");
        S.holds("13: no cue without one", "addPiece(0, 10, 0); type 1:0x3,2,3:0x5", "load(0) = 3; scene(0, 1, 5) = NONE;"
                + "scene(0, 1, 6) = 0; scene(0, 1, 7) = 0; reel(0, 6) = 2");
        S.holds("13: the least and the greatest numbers", "8 * addPiece(0, 10, 0); type 1:0x1@80,900:7x9@120", "load(0) = 2;"
                + "scene(0, 0, 0) = 1; scene(0, 0, 5) = 0; scene(0, 0, 6) = 1; scene(0, 0, 7) = 80; scene(0, 1, 0) = 900;"
                + "scene(0, 1, 5) = 7; scene(0, 1, 6) = 9; scene(0, 1, 7) = 120");
        S.holds("13: all 60 characters, complete", "addPiece(0, 10, 0); type 1" + TEN, "append(49) ! state; load(0) = 10;"
                + "scene(0, 0, 0) = 11; scene(0, 9, 5) = 0; append(49) = 1");
        S.holds("13: all 60 characters, incomplete", "addPiece(0, 10, 0); type " + TEN + ",", "append(49) ! state;"
                + "load(0) ! argument; clearBuffer() = 60; type " + TEN, "load(0) = 10");
        S.holds("13: it clears the buffer", "type 1,2", "load(0) = 2; firstError() = 0; append(51) = 1; load(0) = 3;"
                + "scene(0, 2, 0) = 3");
        S.holds("13: behind those of the reel", "addScene(1, 9); type 1,2", "load(1) = 3; scene(1, 0, 0) = 9;"
                + "scene(1, 1, 0) = 1; scene(1, 2, 0) = 2; reel(0, 0) = 0; reel(2, 0) = 0");
    }

    static void loadRoom() {
        S.holds("13: ten scenes into an empty reel", "type 1,2,3,4,5,6,7,8,9,10", "load(2) = 10; scene(2, 9, 0) = 10;"
                + "type 1; load(2) ! state; clearBuffer() = 1");
        S.holds("13: eleven scenes into an empty reel", "type 1,1,1,1,1,1,1,1,1,1,1", "load(2) ! state; reel(2, 0) = 0;"
                + "clearBuffer() = 21");
        S.holds("13: thirty scenes", "type " + THIRTY.substring(0, 59), "firstError() = 59; load(0) ! state; reel(0, 0) = 0;"
                + "append(44) = 60; load(0) ! argument; clearBuffer() = 60; type 1; load(0) = 1");
        S.holds("13: nine and one", "9 * addScene(0, 1); type 1", "load(0) = 10; count(0) = 10");
        S.holds("13: nine and two", "9 * addScene(0, 1); type 1,1", "load(0) ! state; reel(0, 0) = 9; load(1) = 2; type 1;"
                + "load(0) = 10");
        S.holds("13: ten and one", "10 * addScene(0, 1); type 1", "load(0) ! state; removeScene(0, 3) = 9; load(0) = 10;"
                + "clearBuffer() = 0");
        S.holds("13: no pieces", "type 1:0x1", "load(0) ! state; reel(0, 0) = 0; addPiece(0, 10, 0); load(0) = 1;"
                + "piece(0, 3) = 1");
        S.holds("13: the first piece that does not exist", "2 * addPiece(0, 10, 0); type 1:2x1", "load(0) ! state;"
                + "clearBuffer() = 5; type 1:1x1; load(0) = 1; scene(0, 0, 5) = 1");
        S.holds("13: the eighth piece", "7 * addPiece(0, 10, 0); type 1:7x1", "load(0) ! state; addPiece(0, 10, 0) = 7;"
                + "load(0) = 1; scene(0, 0, 5) = 7");
        S.holds("13: only the last scene's piece does not exist", "addPiece(0, 10, 0); type 1:0x1,2,3:1x1",
                "load(0) ! state; reel(0, 0) = 0; reel(0, 6) = 0; clearBuffer() = 13");
        S.holds("13: only the first scene's piece does not exist", "addPiece(0, 10, 0); type 1:1x1,2,3:0x1",
                "load(0) ! state; reel(0, 0) = 0; clearBuffer() = 13");
        S.holds("13: undoable, and the buffer stays cleared", "type 1,2", "load(0) = 2; count(7) = 1; undo() = 0;"
                + "reel(0, 0) = 0; clearBuffer() = 0");
        S.holds("13: undoable, and the buffer stays filled anew", "type 1,2", "load(0) = 2; type 777; undo() = 0;"
                + "clearBuffer() = 3");
        S.holds("13: refused, not undoable", "type 1:0x1", "load(0) ! state; count(7) = 0; undo() ! state; append(44);"
                + "load(0) ! argument; count(7) = 0");
    }

    static void undo() {
        S.holds("14: none is saved", "undo() ! state; append(49); undo() ! state; addScene(0, 0) ! argument; undo() ! state;"
                + "addScene(0, 1); undo() = 0; undo() ! state");
        S.holds("14: six are saved", "addScene(0, 1); addScene(0, 2); addScene(0, 3); addScene(0, 4); addScene(0, 5);"
                + "count(7) = 5; addScene(0, 6); count(7) = 6; undo() = 5; reel(0, 0) = 5; undo() = 4; reel(0, 0) = 4;"
                + "undo() = 3; reel(0, 0) = 3; undo() = 2; reel(0, 0) = 2; undo() = 1; reel(0, 0) = 1; undo() = 0;"
                + "reel(0, 0) = 0; undo() ! state");
        S.holds("14: the seventh drops the oldest", "7 * addScene(0, 5); count(7) = 6; undo() = 5; undo() = 4; undo() = 3;"
                + "undo() = 2; undo() = 1; undo() = 0; reel(0, 0) = 1; undo() ! state; reel(0, 0) = 1");
        S.holds("14: the eighth drops the next", "8 * addScene(0, 5); count(7) = 6; 6 * undo(); reel(0, 0) = 2;"
                + "undo() ! state");
        S.holds("14: many, then all back", "9 * addScene(0, 5); 9 * addScene(1, 5); 9 * addScene(2, 5); 6 * undo();"
                + "reel(2, 0) = 3; reel(1, 0) = 9; undo() ! state");
        S.holds("14: some back, some new, the room goes round", "8 * addScene(0, 5); undo() = 5; undo() = 4; reel(0, 0) = 6;"
                + "addPiece(0, 10, 0); addPiece(0, 11, 0); count(7) = 6; addPiece(0, 12, 0); count(7) = 6; undo() = 5;"
                + "count(1) = 2; undo() = 4; count(1) = 1; undo() = 3; count(1) = 0; reel(0, 0) = 6; undo() = 2;"
                + "reel(0, 0) = 5; undo() = 1; undo() = 0; reel(0, 0) = 3; undo() ! state");
        S.holds("14: it is not undoable itself", "addScene(0, 1); addScene(0, 2); undo() = 1; undo() = 0; reel(0, 0) = 0;"
                + "undo() ! state");
        S.holds("14: a refused call saves nothing, with six saved", "6 * addScene(0, 5); addScene(0, 901) ! argument;"
                + "removeScene(0, 6) ! index; count(7) = 6; undo() = 5; reel(0, 0) = 5; 5 * undo(); reel(0, 0) = 0");
        S.holds("14: not the buffer", "type 12", "addScene(0, 1); append(51) = 3; undo() = 0; clearBuffer() = 3;"
                + "addScene(0, 1); type 4; undo() = 0; firstError() = 1");
        undoEach();
        undoDrops();
    }

    /** Each call and undo behind it lead to the state from before, with three saved states. */
    static void undoEach() {
        String before = "addPiece(0, 50, 0); addScene(0, 10); setCue(0, 0, 0, 1, 90); ";
        String[] calls = {"addScene(0, 900)", "addScene(2, 1)", "removeScene(0, 0)", "crank(0, 0, 30)", "crank(0, 5, 30)",
                "crank(2, 9000, 10)", "splice(0, 5, 5)", "splice(1, 9000, 50)", "splice(0, 5, 0)",
                "addPiece(600, 1200, 600)", "setCue(0, 0, 0, 9, 120)", "setCue(0, 0, NONE, 1, 80)", "fit(0)", "fit(1)",
                "set(0, 0)", "set(600, 20)", "set(20, 5)", "type 5,7:0x1@80; load(0)", "type 5; load(1)"};
        for (String call : calls) {
            S.same("14: back before " + call, before, call + "; undo()", "");
        }
        S.same("14: a splice that was replaced", "addScene(0, 30); splice(0, 5, 20); ", "splice(0, 5, 1); undo()", "");
        S.same("14: a splice that was removed", "addScene(0, 30); splice(0, 5, 20); splice(0, 1, 1); ", "splice(0, 5, 0); undo()",
                "");
        S.same("14: a speed that was replaced", "addScene(0, 30); crank(0, 5, 20); ", "crank(0, 5, 10); undo()", "");
        S.same("14: a piece, and another one in its place", before, "addPiece(1, 20, 3); undo(); addPiece(4, 50, 6)",
                "addPiece(4, 50, 6)");
        S.same("14: a scene, and another one in its place", before, "type 7:0x2@80; load(0); undo(); addScene(0, 5)",
                "addScene(0, 5)");
        S.same("14: a cue, and another one in its place", before, "setCue(0, 0, 0, 9, 120); undo(); setCue(0, 0, 0, 2, 80)",
                "setCue(0, 0, 0, 2, 80)");
        S.same("14: a splice, and another one in its place", before, "splice(0, 2, 2); undo(); splice(0, 4, 3)",
                "splice(0, 4, 3)");
        S.same("14: a speed, and another one in its place", before, "crank(0, 2, 20); undo(); crank(0, 4, 30)",
                "crank(0, 4, 30)");
        S.same("14: five calls", before, "addScene(1, 5); undo(); set(0, 0); undo(); fit(0); undo()", "");
    }

    /** With six saved states, the seventh call drops the oldest one, whichever call it is. */
    static void undoDrops() {
        String six = "addPiece(0, 50, 0); addScene(0, 10); setCue(0, 0, 0, 1, 90); 3 * set(20, 5); count(7) = 6; ";
        String[] calls = {"addScene(0, 1)", "removeScene(0, 0)", "crank(0, 0, 16)", "splice(0, 5, 0)", "addPiece(0, 10, 0)",
                "setCue(0, 0, 0, 1, 90)", "fit(2)", "set(20, 5)", "type 5; load(1)"};
        for (String call : calls) {
            S.holds("14: " + call + " drops the oldest", six + call + "; count(7) = 6; 6 * undo(); count(1) = 1;"
                    + "reel(0, 0) = 0; undo() ! state");
        }
        S.holds("14: calls that are not undoable drop none", six + "append(49); clearBuffer(); firstError(); scene(0, 0, 0);"
                + "reel(0, 0); speedAt(0, 0); piece(0, 0); count(0); bestCue(0, 0, 0); bestPiece(0, 0); ifCranked(0, 10);"
                + "bestSpeed(0); offShare(0); meanSpeed(0); digest(); count(7) = 6; 6 * undo(); count(1) = 0;"
                + "undo() ! state");
    }

    public static void main(String[] args) {
        append();
        clearBuffer();
        firstError();
        loadSheets();
        loadRoom();
        undo();
        S.end();
    }
}
