/** The boundary cases that promises 1 to 5 and 15 to 17 name, with the terms of reels and scenes. All at speed 16: 10 a foot. */
public final class ReelBoundariesTest {
    static final Sentences S = new Sentences();
    /** Three scenes of 10 feet, from the feet 0, 10 and 20. */
    static final String THREE = "3 * addScene(0, 10); ";

    static void newObject() {
        S.holds("1: three reels", "reel(0, 0) = 0; reel(1, 0) = 0; reel(2, 0) = 0; reel(3, 0) ! index; reel(-1, 0) ! index");
        S.holds("1: without scenes", "scene(0, 0, 0) ! index; scene(1, 0, 0) ! index; scene(2, 0, 0) ! index; count(0) = 0");
        S.holds("1: the first scene then", "removeScene(0, 0) ! index; addScene(0, 5) = 0; removeScene(0, 0) = 0");
        S.holds("1: without splices", "reel(0, 5) = 0; reel(1, 5) = 0; reel(2, 5) = 0; splice(1, 0, 0) = 0");
        S.holds("1: without pieces", "count(1) = 0; piece(0, 0) ! index; addPiece(0, 10, 0) = 0; piece(0, 1) = 10");
        S.holds("1: with an empty buffer", "clearBuffer() = 0; firstError() = 0; load(0) ! argument; append(49) = 1");
        S.holds("1: no saved states", "count(7) = 0; undo() ! state; count(7) = 0");
        S.holds("terms: at first tolerance 20 and leeway 5", "count(4) = 20; count(5) = 5; set(0, 0) = 2005");
        for (int reel = 0; reel < 3; reel++) {
            S.holds("terms: at first one speed, from foot 0, 16", "reel(R, 4) = 1; speedAt(R, 0) = 16; speedAt(R, 9000) = 16"
                    .replace("R", Integer.toString(reel)));
        }
    }

    static void addScene() {
        S.range("2: length 1 to 900", "", "addScene(0, %)", 1, 900, "argument");
        S.holds("2: the least length", "addScene(0, 1) = 0; scene(0, 0, 0) = 1; reel(0, 1) = 1; reel(0, 3) = 10");
        S.holds("2: the greatest length", "addScene(0, 900) = 0; scene(0, 0, 0) = 900; reel(0, 1) = 900; reel(0, 3) = 9000");
        for (int reel = 0; reel < 3; reel++) {
            S.holds("2: at most 10 scenes, refused when the reel has 10",
                    ("9 * addScene(R, 900); addScene(R, 900) = 9; addScene(R, 900) ! state; reel(R, 0) = 10;"
                            + "reel(R, 1) = 9000; removeScene(R, 4) = 9; addScene(R, 1) = 9; addScene(R, 1) ! state;"
                            + "reel(R, 1) = 8101")
                    .replace("R", Integer.toString(reel)));
        }
        S.holds("2: a full reel leaves the others free", "10 * addScene(1, 5); addScene(0, 5) = 0; addScene(2, 5) = 0;"
                + "count(0) = 12");
        S.holds("2: room again behind undo", "10 * addScene(0, 5); addScene(0, 5) ! state; undo() = 5; addScene(0, 5) = 9");
        S.holds("2: without a cue, also where one was", "addPiece(0, 50, 0); addScene(0, 5); setCue(0, 0, 0, 9, 120);"
                + "removeScene(0, 0) = 0; addScene(0, 5) = 0; scene(0, 0, 5) = NONE; scene(0, 0, 6) = 0;"
                + "scene(0, 0, 7) = 0");
        S.holds("2: undoable", "addScene(0, 5); count(7) = 1; undo() = 0; reel(0, 0) = 0; addScene(0, 0) ! argument;"
                + "count(7) = 0");
    }

    static void removeScene() {
        String full = "addScene(0, 1); addScene(0, 2); addScene(0, 3); addScene(0, 4); addScene(0, 5); addScene(0, 6);"
                + "addScene(0, 7); addScene(0, 8); addScene(0, 9); addScene(0, 10); ";
        S.range("3: its number", THREE, "removeScene(0, %)", 0, 2, "index");
        S.holds("3: none there", "removeScene(0, 0) ! index; removeScene(1, 0) ! index; removeScene(2, 0) ! index");
        S.holds("3: the only one", "addScene(2, 5); removeScene(2, 1) ! index; removeScene(2, 0) = 0;"
                + "removeScene(2, 0) ! index");
        S.holds("3: the first of ten", full + "removeScene(0, 0) = 9; scene(0, 0, 0) = 2; scene(0, 8, 0) = 10;"
                + "scene(0, 9, 0) ! index");
        S.holds("3: the last of ten", full + "removeScene(0, 9) = 9; scene(0, 0, 0) = 1; scene(0, 8, 0) = 9;"
                + "scene(0, 9, 0) ! index");
        S.holds("3: one between", full + "removeScene(0, 4) = 9; scene(0, 3, 0) = 4; scene(0, 4, 0) = 6;"
                + "scene(0, 4, 1) = 10");
        S.holds("3: behind the last of ten", full + "removeScene(0, 10) ! index; removeScene(0, 9) = 9;"
                + "removeScene(0, 9) ! index");
        S.holds("3: all of them", full + "9 * removeScene(0, 0); scene(0, 0, 0) = 10; removeScene(0, 0) = 0;"
                + "reel(0, 1) = 0");
        S.holds("3: with its cue, those of later scenes stay theirs", THREE + "addPiece(0, 30, 0); setCue(0, 1, 0, 1, 80);"
                + "setCue(0, 2, 0, 2, 90); removeScene(0, 1) = 2; scene(0, 1, 6) = 2; scene(0, 1, 7) = 90; reel(0, 6) = 1;"
                + "piece(0, 3) = 1");
        S.holds("3: speeds stay at their feet, behind the film too", THREE + "crank(0, 29, 20); removeScene(0, 0) = 2;"
                + "reel(0, 4) = 2; reel(0, 3) = 200; speedAt(0, 28) = 16; speedAt(0, 29) = 20; addScene(0, 10);"
                + "reel(0, 3) = 298");
        S.holds("3: splices stay at their feet, behind the film too", THREE + "splice(0, 20, 3); removeScene(0, 2) = 2;"
                + "reel(0, 5) = 1; reel(0, 2) = 0; addScene(0, 1); reel(0, 2) = 1; addScene(0, 5); reel(0, 2) = 3");
        S.holds("3: undoable", "addScene(0, 5); removeScene(0, 0) = 0; count(7) = 2; undo() = 1; reel(0, 0) = 1");
    }

    static void crank() {
        S.range("4: foot 0 to 9000", "", "crank(0, %, 20)", 0, 9000, "argument");
        S.range("4: speed 10 to 30", "", "crank(0, 5, %)", 10, 30, "argument");
        S.holds("4: foot 0 is there, and is replaced", "crank(0, 0, 30) = 1; speedAt(0, 0) = 30; crank(0, 0, 10) = 1;"
                + "speedAt(0, 0) = 10");
        S.holds("4: the last foot", "crank(0, 9000, 10) = 2; speedAt(0, 8999) = 16; speedAt(0, 9000) = 10;"
                + "crank(0, 9000, 30) = 2; speedAt(0, 9000) = 30; speedAt(0, 8999) = 16");
        S.holds("4: feet side by side are different", "crank(0, 5, 20) = 2; crank(0, 6, 21) = 3; crank(0, 4, 22) = 4;"
                + "speedAt(0, 3) = 16; speedAt(0, 4) = 22; speedAt(0, 5) = 20; speedAt(0, 6) = 21; speedAt(0, 7) = 21");
        String six = "crank(0, 9000, 11); crank(0, 40, 12); crank(0, 50, 13); crank(0, 30, 14); crank(0, 1, 15) = 6; ";
        S.holds("4: six speeds, the seventh is refused", six + "crank(0, 2, 20) ! state; crank(0, 8999, 20) ! state;"
                + "reel(0, 4) = 6; speedAt(0, 2) = 15; speedAt(0, 8999) = 13");
        S.holds("4: six speeds, each one is replaced", six + "crank(0, 0, 20) = 6; crank(0, 1, 21) = 6;"
                + "crank(0, 30, 22) = 6; crank(0, 40, 23) = 6; crank(0, 50, 24) = 6; crank(0, 9000, 25) = 6;"
                + "speedAt(0, 0) = 20; speedAt(0, 1) = 21; speedAt(0, 30) = 22; speedAt(0, 40) = 23; speedAt(0, 50) = 24;"
                + "speedAt(0, 9000) = 25; crank(0, 2, 20) ! state");
        S.holds("4: six speeds of one reel leave the others free", six + "crank(1, 2, 20) = 2; crank(2, 2, 20) = 2;"
                + "crank(0, 2, 20) ! state");
        S.holds("4: room again behind undo", six + "crank(0, 2, 20) ! state; undo() = 4; crank(0, 2, 20) = 6;"
                + "speedAt(0, 1) = 16");
        S.holds("4: undoable, also if it changes nothing", "crank(0, 0, 16) = 1; count(7) = 1; undo() = 0;"
                + "crank(0, 0, 9) ! argument; count(7) = 0");
    }

    static void splice() {
        S.range("5: foot 0 to 9000", "", "splice(0, %, 1)", 0, 9000, "argument");
        S.range("5: foot 0 to 9000, to remove", "", "splice(0, %, 0)", 0, 9000, "argument");
        S.range("5: lost 0 to 50", "", "splice(0, 5, %)", 0, 50, "argument");
        S.holds("5: the least", THREE + "splice(0, 5, 1) = 1; reel(0, 2) = 1");
        S.holds("5: the greatest", "addScene(0, 100); splice(0, 5, 50) = 1; reel(0, 2) = 50");
        S.holds("5: 0 removes", THREE + "splice(0, 5, 3) = 1; splice(0, 5, 0) = 0; reel(0, 2) = 0; reel(0, 5) = 0");
        S.holds("5: 0 removes that one alone", THREE + "splice(0, 5, 1); splice(0, 6, 1); splice(0, 4, 1) = 3;"
                + "splice(0, 5, 0) = 2; reel(0, 2) = 2");
        S.holds("5: 0 removes that one alone, the others keep what they lose", "addScene(0, 90); splice(0, 5, 3);"
                + "splice(0, 20, 7); splice(0, 40, 12); splice(0, 20, 0) = 2; reel(0, 2) = 15; splice(0, 5, 0) = 1;"
                + "reel(0, 2) = 12; splice(0, 40, 0) = 0; reel(0, 2) = 0");
        S.holds("5: 0 where none is", THREE + "splice(0, 5, 0) = 0; splice(0, 6, 2) = 1; splice(0, 5, 0) = 1;"
                + "splice(0, 7, 0) = 1; reel(0, 2) = 2");
        S.holds("5: the one with this foot is replaced", THREE + "splice(0, 5, 9); splice(0, 5, 2) = 1; reel(0, 2) = 2;"
                + "splice(0, 5, 4) = 1; reel(0, 2) = 4");
        String six = THREE + "splice(0, 9000, 50); splice(0, 3, 1); splice(0, 5, 1); splice(0, 1, 1); splice(0, 20, 1);"
                + "splice(0, 0, 1) = 6; ";
        S.holds("5: six splices, the seventh is refused", six + "splice(0, 2, 1) ! state; splice(0, 8999, 50) ! state;"
                + "reel(0, 5) = 6; reel(0, 2) = 5");
        S.holds("5: six splices, each one is replaced", six + "splice(0, 0, 2) = 6; splice(0, 1, 2) = 6;"
                + "splice(0, 3, 2) = 6; splice(0, 5, 2) = 6; splice(0, 20, 2) = 6; splice(0, 9000, 1) = 6; reel(0, 2) = 9;"
                + "splice(0, 2, 1) ! state");
        S.holds("5: six splices, 0 where none is", six + "splice(0, 2, 0) = 6; splice(0, 8999, 0) = 6; reel(0, 2) = 5");
        S.holds("5: six splices, one removed makes room", six + "splice(0, 2, 1) ! state; splice(0, 9000, 0) = 5;"
                + "splice(0, 2, 1) = 6; splice(0, 4, 1) ! state; reel(0, 2) = 6");
        S.holds("5: six splices of one reel leave the others free", six + "splice(1, 2, 1) = 1; splice(2, 2, 1) = 1;"
                + "splice(0, 2, 1) ! state");
        S.holds("5: undoable, also if it changes nothing", "splice(0, 5, 0) = 0; count(7) = 1; undo() = 0;"
                + "splice(0, 5, 51) ! argument; count(7) = 0");
    }

    /** A foot f is lost (once) if there is at least one splice with a foot s and n lost feet, and s <= f < s + n. */
    static void lostFeet() {
        S.holds("terms: the foot of the splice is lost, that before it not", THREE + "splice(0, 10, 1); scene(0, 0, 2) = 0;"
                + "scene(0, 1, 2) = 1; scene(0, 2, 2) = 0");
        S.holds("terms: s + n - 1 is lost, s + n not", THREE + "splice(0, 9, 1); scene(0, 0, 2) = 1; scene(0, 1, 2) = 0;"
                + "splice(0, 9, 2); scene(0, 0, 2) = 1; scene(0, 1, 2) = 1");
        S.holds("terms: a whole scene is lost", THREE + "splice(0, 10, 10); scene(0, 0, 2) = 0; scene(0, 1, 2) = 10;"
                + "scene(0, 2, 2) = 0; scene(0, 1, 3) = 0; scene(0, 2, 4) = 100; reel(0, 3) = 200");
        S.holds("terms: over a scene and a foot on each side", THREE + "splice(0, 9, 12); scene(0, 0, 2) = 1;"
                + "scene(0, 1, 2) = 10; scene(0, 2, 2) = 1; reel(0, 3) = 180");
        S.holds("terms: foot 0 is lost", THREE + "splice(0, 0, 1); scene(0, 0, 2) = 1; scene(0, 0, 3) = 90");
        S.holds("terms: all feet are lost", THREE + "splice(0, 0, 30); reel(0, 2) = 30; reel(0, 3) = 0; scene(0, 2, 4) = 0;"
                + "splice(0, 0, 29); reel(0, 2) = 29; reel(0, 3) = 10");
        S.holds("terms: the last foot of the film is lost", THREE + "splice(0, 29, 1); reel(0, 2) = 1; scene(0, 2, 2) = 1");
        S.holds("terms: the first foot behind the film is none", THREE + "splice(0, 30, 50); reel(0, 2) = 0; addScene(0, 1);"
                + "reel(0, 2) = 1; addScene(0, 900); reel(0, 2) = 50");
        S.holds("terms: over the end of the film", THREE + "splice(0, 28, 50); reel(0, 2) = 2; reel(0, 3) = 280;"
                + "addScene(0, 47); reel(0, 2) = 49; addScene(0, 1); reel(0, 2) = 50; addScene(0, 1); reel(0, 2) = 50");
        S.holds("terms: the last foot of a full reel", "10 * addScene(0, 900); splice(0, 8999, 50); reel(0, 2) = 1;"
                + "scene(0, 9, 2) = 1; reel(0, 3) = 89990");
        S.holds("terms: foot 9000 is in no film", "10 * addScene(0, 900); splice(0, 9000, 50) = 1; reel(0, 2) = 0;"
                + "reel(0, 3) = 90000");
        S.holds("terms: no film, nothing lost", "splice(0, 0, 50) = 1; reel(0, 2) = 0; reel(0, 5) = 1");
        S.holds("terms: two splices side by side", THREE + "splice(0, 5, 5); splice(0, 10, 5); reel(0, 2) = 10;"
                + "scene(0, 0, 2) = 5; scene(0, 1, 2) = 5");
        S.holds("terms: lost once where two overlap by a foot", THREE + "splice(0, 5, 6); splice(0, 10, 5); reel(0, 2) = 10;"
                + "scene(0, 0, 2) = 5; scene(0, 1, 2) = 5");
        S.holds("terms: lost once where one ends with another", THREE + "splice(0, 5, 10); splice(0, 14, 1);"
                + "reel(0, 2) = 10; splice(0, 14, 2); reel(0, 2) = 11");
        S.holds("terms: lost once inside another, and another behind", THREE + "splice(0, 2, 20); splice(0, 3, 1);"
                + "splice(0, 12, 5); reel(0, 2) = 20; splice(0, 21, 2); reel(0, 2) = 21");
        S.holds("terms: lost once by six splices", "addScene(0, 100); splice(0, 5, 50); splice(0, 4, 50); splice(0, 3, 50);"
                + "splice(0, 2, 50); splice(0, 1, 50); splice(0, 0, 50); reel(0, 2) = 55; reel(0, 3) = 450");
        S.holds("terms: a splice before the scene reaches into it", "addScene(0, 49); addScene(0, 10); splice(0, 0, 50);"
                + "scene(0, 0, 2) = 49; scene(0, 1, 2) = 1; splice(0, 0, 49); scene(0, 1, 2) = 0");
    }

    static void times() {
        int[] each = {16, 14, 13, 12, 11, 10, 10, 9, 8, 8, 8, 7, 7, 6, 6, 6, 6, 5, 5, 5, 5};
        for (int i = 0; i < each.length; i++) {
            S.holds("terms: 160 / speed, rounded down for each foot", "addScene(0, 7); crank(0, 0, " + (10 + i) + ");"
                    + "scene(0, 0, 3) = " + 7 * each[i]);
        }
        S.holds("terms: the speed from its foot on", THREE + "crank(0, 10, 20); scene(0, 0, 3) = 100; scene(0, 1, 3) = 80;"
                + "scene(0, 2, 3) = 80");
        S.holds("terms: the foot before has the speed before", THREE + "crank(0, 11, 20); scene(0, 0, 3) = 100;"
                + "scene(0, 1, 3) = 82; crank(0, 9, 10); scene(0, 0, 3) = 106; scene(0, 1, 3) = 88");
        S.holds("terms: the last foot of the film", THREE + "crank(0, 29, 20); reel(0, 3) = 298; crank(0, 30, 10);"
                + "reel(0, 3) = 298");
        S.holds("terms: the last foot of a full reel", "10 * addScene(0, 900); crank(0, 8999, 10); reel(0, 3) = 90006;"
                + "crank(0, 9000, 30); reel(0, 3) = 90006");
        S.holds("terms: six speeds in one scene", "addScene(0, 20); crank(0, 1, 10); crank(0, 2, 11); crank(0, 3, 12);"
                + "crank(0, 4, 13); crank(0, 5, 30); scene(0, 0, 3) = " + (10 + 16 + 14 + 13 + 12 + 15 * 5));
        S.holds("terms: a lost foot takes no time, whatever its speed", THREE + "splice(0, 5, 1); crank(0, 5, 10);"
                + "crank(0, 6, 16); scene(0, 0, 3) = 90; reel(0, 3) = 290");
        S.holds("terms: lost feet on both sides of a speed", THREE + "crank(0, 10, 20); splice(0, 8, 5);"
                + "scene(0, 0, 3) = 80; scene(0, 1, 3) = 56");
        S.holds("terms: the slowest full reel", "10 * addScene(0, 900); crank(0, 0, 10); reel(0, 3) = 144000;"
                + "scene(0, 9, 4) = 129600");
        S.holds("terms: the fastest full reel", "10 * addScene(0, 900); crank(0, 0, 30); reel(0, 3) = 45000");
    }

    static void scene() {
        String before = THREE + "addPiece(0, 105, 0); ";
        S.range("15: its number", before, "scene(0, %, 4)", 0, 2, "index");
        S.range("15: what 0 to 11", before, "scene(0, 1, %)", 0, 11, "argument");
        S.holds("15: no scenes", "scene(0, 0, 0) ! index; scene(2, 0, 11) ! index; addScene(0, 3); scene(0, 0, 0) = 3;"
                + "scene(2, 0, 0) ! index");
        S.holds("15: the tenth scene", "10 * addScene(1, 2); scene(1, 9, 1) = 18; scene(1, 9, 4) = 180;"
                + "scene(1, 10, 0) ! index; scene(1, 9, 0) = 2");
        S.holds("15: the first scene begins at 0, at foot 0", before + "scene(0, 0, 1) = 0; scene(0, 0, 4) = 0;"
                + "removeScene(0, 0); scene(0, 0, 1) = 0; scene(0, 0, 4) = 0");
        S.holds("15: NONE and 0 without a cue", before + "scene(0, 1, 5) = NONE; scene(0, 1, 6) = 0; scene(0, 1, 7) = 0;"
                + "scene(0, 1, 8) = 0; scene(0, 1, 9) = 0; scene(0, 1, 10) = 0; scene(0, 1, 11) = 0");
        S.holds("15: NONE and 0 without a cue, while music plays on", before + "set(0, 5); setCue(0, 0, 0, 2, 100);"
                + "scene(0, 1, 5) = NONE; scene(0, 1, 6) = 0; scene(0, 1, 7) = 0; scene(0, 1, 8) = 0; scene(0, 1, 9) = 0;"
                + "scene(0, 1, 10) = 0; scene(0, 1, 11) = 0");
        S.holds("15: the same when its cue was taken away", before + "setCue(0, 1, 0, 3, 90); setCue(0, 1, NONE, 3, 90);"
                + "scene(0, 1, 5) = NONE; scene(0, 1, 6) = 0; scene(0, 1, 7) = 0; scene(0, 1, 8) = 0; scene(0, 1, 9) = 0;"
                + "scene(0, 1, 10) = 0; scene(0, 1, 11) = 0");
        S.holds("15: a cue with piece 0", before + "setCue(0, 1, 0, 1, 100) = 5; scene(0, 1, 5) = 0; scene(0, 1, 6) = 1;"
                + "scene(0, 1, 7) = 100; scene(0, 1, 8) = 100; scene(0, 1, 9) = 205; scene(0, 1, 10) = 5;"
                + "scene(0, 1, 11) = 0");
        S.holds("15: a bad drift without size is none", before + "set(0, 0); setCue(0, 0, 0, 1, 105) = 0;"
                + "scene(0, 0, 11) = 0; setCue(0, 0, 0, 1, 104) = 0; setCue(0, 0, 0, 1, 103) = 1; scene(0, 0, 11) = 1");
    }

    static void reel() {
        String before = "3 * addScene(0, 10); addPiece(0, 100, 0); addPiece(0, 99, 0); addPiece(0, 101, 0);"
                + "addPiece(0, 150, 0); ";
        S.range("16: what 0 to 10", before, "reel(0, %)", 0, 10, "argument");
        for (int what = 0; what <= 10; what++) {
            S.holds("16: nothing there", "reel(0, W) = V; reel(1, W) = V; reel(2, W) = V".replace("W",
                    Integer.toString(what)).replace("V", what == 4 ? "1" : "0"));
        }
        S.holds("16: all full", "10 * addScene(0, 900); splice(0, 0, 50); splice(0, 100, 50); splice(0, 200, 50);"
                + "splice(0, 300, 50); splice(0, 400, 50); splice(0, 500, 50); crank(0, 1, 16); crank(0, 2, 16);"
                + "crank(0, 3, 16); crank(0, 4, 16); crank(0, 5, 16); reel(0, 0) = 10; reel(0, 1) = 9000; reel(0, 2) = 300;"
                + "reel(0, 3) = 87000; reel(0, 4) = 6; reel(0, 5) = 6");
        S.holds("16: ten cues, all bad", "10 * addScene(0, 2); addPiece(0, 41, 0);"
                + Sentences.cues(10, 0, 1, 100) + "reel(0, 6) = 10; reel(0, 7) = 10; reel(0, 8) = " + (10 * 11 / 2 * 21)
                        + "; reel(0, 10) = 410; reel(0, 9) = 0");
        S.holds("16: sizes of drifts do not cancel", before + "setCue(0, 0, 1, 1, 100) = -1; setCue(0, 1, 2, 1, 100) = 1;"
                + "reel(0, 8) = 2; reel(0, 7) = 0");
        S.holds("16: silence without cues is the whole time", before + "reel(0, 9) = 300; reel(0, 10) = 0; reel(0, 8) = 0");
        S.holds("16: music to the very end of the reel", before + "setCue(0, 0, 0, 3, 100) = 200; reel(0, 9) = 0;"
                + "reel(0, 10) = 300");
        S.holds("16: music that ends one before the end", before + "setCue(0, 0, 0, 2, 100); setCue(0, 2, 1, 1, 100) = -1;"
                + "reel(0, 9) = 1; reel(0, 10) = 299");
        S.holds("16: what plays behind the end does not matter", before + "setCue(0, 0, 0, 2, 100);"
                + "setCue(0, 2, 2, 1, 100) = 1; reel(0, 9) = 0; reel(0, 10) = 301");
        S.holds("16: silence between two cues", before + "setCue(0, 0, 1, 1, 100); setCue(0, 1, 1, 1, 100);"
                + "setCue(0, 2, 0, 1, 100); reel(0, 9) = 2");
        S.holds("16: silence ahead of the first cue", before + "setCue(0, 2, 0, 1, 100) = 0; reel(0, 9) = 200;"
                + "reel(0, 10) = 300");
        S.holds("16: a cue that begins at the end of the reel", before + "setCue(0, 0, 0, 3, 100);"
                + "setCue(0, 1, 0, 1, 100) = 200; scene(0, 1, 8) = 300; reel(0, 9) = 0; reel(0, 10) = 400");
        S.holds("16: a cue that begins behind the end of the reel", before + "setCue(0, 0, 3, 3, 100) = 350;"
                + "setCue(0, 1, 0, 1, 100) = 350; scene(0, 1, 8) = 450; reel(0, 9) = 0; reel(0, 10) = 550");
        S.holds("16: the last cue is the last in its order, whether its scene is the last or not", before
                + "setCue(0, 1, 0, 1, 100) = 0; reel(0, 10) = 200; setCue(0, 1, NONE, 1, 100); reel(0, 10) = 0");
        S.holds("16: a reel without time", "addScene(0, 10); splice(0, 0, 10); addPiece(0, 10, 0);"
                + "setCue(0, 0, 0, 1, 100) = 10; reel(0, 3) = 0; reel(0, 9) = 0; reel(0, 10) = 10; reel(0, 8) = 10");
    }

    static void speedAt() {
        S.range("17: foot 0 to 9000", "crank(0, 100, 20); ", "speedAt(0, %)", 0, 9000, "argument");
        S.holds("17: where a speed begins", "crank(0, 100, 20); crank(0, 101, 30); speedAt(0, 99) = 16;"
                + "speedAt(0, 100) = 20; speedAt(0, 101) = 30; speedAt(0, 102) = 30");
        S.holds("17: at both ends", "crank(0, 1, 20); crank(0, 9000, 30); crank(0, 0, 10); speedAt(0, 0) = 10;"
                + "speedAt(0, 1) = 20; speedAt(0, 8999) = 20; speedAt(0, 9000) = 30");
        S.holds("17: without film, and at lost feet too", "crank(0, 5, 20); splice(0, 5, 50); speedAt(0, 5) = 20;"
                + "addScene(0, 2); speedAt(0, 5) = 20; speedAt(0, 4) = 16");
    }

    public static void main(String[] args) {
        newObject();
        addScene();
        removeScene();
        crank();
        splice();
        lostFeet();
        times();
        scene();
        reel();
        speedAt();
        S.end();
    }
}
