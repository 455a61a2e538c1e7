/** The boundary cases that promises 6 to 9, 18, 20 and 21 name, with the terms of music and cues. All at speed 16: 10 a foot. */
public final class MusicBoundariesTest {
    static final Sentences S = new Sentences();
    /** Three scenes that end at 100, 200 and 300. */
    static final String THREE = "3 * addScene(0, 10); ";
    /** Pieces that play as long as a scene, one shorter, one longer, and one of 10. */
    static final String PIECES = "addPiece(0, 100, 0); addPiece(0, 99, 0); addPiece(0, 101, 0); addPiece(0, 10, 0); ";

    static void addPiece() {
        S.range("6: opening 0 to 600", "", "addPiece(%, 100, 5)", 0, 600, "argument");
        S.range("6: strain 10 to 1200", "", "addPiece(5, %, 5)", 10, 1200, "argument");
        S.range("6: close 0 to 600", "", "addPiece(5, 100, %)", 0, 600, "argument");
        S.holds("6: the least piece", "addPiece(0, 10, 0) = 0; piece(0, 0) = 0; piece(0, 1) = 10; piece(0, 2) = 0");
        S.holds("6: the greatest piece", "addPiece(600, 1200, 600) = 0; piece(0, 0) = 600; piece(0, 1) = 1200;"
                + "piece(0, 2) = 600");
        S.holds("6: at most 8 pieces, refused when there are 8", "7 * addPiece(1, 20, 3); addPiece(4, 50, 6) = 7;"
                + "addPiece(1, 20, 3) ! state; count(1) = 8; piece(7, 1) = 50; piece(8, 1) ! index; undo() = 5;"
                + "addPiece(7, 80, 9) = 7; addPiece(1, 20, 3) ! state; piece(7, 0) = 7; piece(7, 1) = 80; piece(7, 2) = 9");
        S.holds("6: the same piece again is another one", "addPiece(1, 20, 3) = 0; addPiece(1, 20, 3) = 1; count(1) = 2");
        S.holds("6: undoable", "addPiece(1, 20, 3) = 0; count(7) = 1; undo() = 0; count(1) = 0;"
                + "addPiece(1, 9, 3) ! argument; count(7) = 0; piece(0, 0) ! index");
    }

    static void playTimes() {
        S.holds("terms: the longest cue", "addScene(0, 1); addPiece(600, 1200, 600); setCue(0, 0, 0, 9, 80) = 14990;"
                + "scene(0, 0, 9) = 15000");
        S.holds("terms: the shortest cue", "addScene(0, 1); addPiece(0, 10, 0); setCue(0, 0, 0, 1, 120) = -2;"
                + "scene(0, 0, 9) = 8");
        S.holds("terms: one strain and nine", "addScene(0, 1); addPiece(3, 20, 4); setCue(0, 0, 0, 1, 100) = 17;"
                + "setCue(0, 0, 0, 9, 100) = 177");
        S.holds("terms: rounded down behind the whole product", "addScene(0, 1); addPiece(0, 10, 0);"
                + "setCue(0, 0, 0, 1, 101) = -1; setCue(0, 0, 0, 1, 99) = 0; setCue(0, 0, 0, 1, 91) = 0;"
                + "setCue(0, 0, 0, 1, 90) = 1; setCue(0, 0, 0, 1, 112) = -2; setCue(0, 0, 0, 1, 111) = -1;"
                + "setCue(0, 0, 0, 7, 120) = 48");
        S.holds("terms: rounded down once, not part by part", "addScene(0, 1); addPiece(1, 11, 1);"
                + "setCue(0, 0, 0, 9, 81) = 114; setCue(0, 0, 0, 9, 119) = 74");
    }

    static void setCue() {
        String before = THREE + PIECES;
        S.range("7: its number", before, "setCue(0, %, 0, 1, 100)", 0, 2, "index");
        S.range("7: strains 1 to 9", before, "setCue(0, 0, 0, %, 100)", 1, 9, "argument");
        S.range("7: pace 80 to 120", before, "setCue(0, 0, 0, 1, %)", 80, 120, "argument");
        S.range("7: strains 1 to 9, also with NONE", before + "setCue(0, 0, 0, 2, 90); ", "setCue(0, 0, NONE, %, 100)", 1,
                9, "argument");
        S.range("7: pace 80 to 120, also with NONE", before + "setCue(0, 0, 0, 2, 90); ", "setCue(0, 0, NONE, 1, %)", 80,
                120, "argument");
        S.range("7: the piece", before, "setCue(0, 0, %, 1, 100)", 0, 3, "index");
        S.holds("7: the piece, beside NONE", before + "setCue(0, 0, -2000000, 1, 100) ! index;"
                + "setCue(0, 0, -2000002, 1, 100) ! index; setCue(0, 0, NONE, 1, 100) = 0; setCue(0, 0, 0, 1, 100) = 0");
        S.holds("7: no pieces", THREE + "setCue(0, 0, 0, 1, 100) ! index; setCue(0, 0, NONE, 1, 100) = 0;"
                + "addPiece(0, 10, 0); setCue(0, 0, 0, 1, 100) = -90; setCue(0, 0, 1, 1, 100) ! index");
        S.holds("7: no scenes", PIECES + "setCue(0, 0, 0, 1, 100) ! index; setCue(0, 0, NONE, 1, 100) ! index;"
                + "setCue(2, 0, 0, 1, 100) ! index; addScene(0, 10); setCue(0, 0, 0, 1, 100) = 0");
        S.holds("7: the eighth piece and the tenth scene", "10 * addScene(1, 1); 8 * addPiece(0, 11, 0);"
                + "setCue(1, 9, 7, 9, 80) = 113; setCue(1, 10, 7, 9, 80) ! index; setCue(1, 9, 8, 9, 80) ! index;"
                + "scene(1, 9, 5) = 7");
        S.holds("7: NONE takes it away", before + "setCue(0, 0, 2, 1, 100) = 1; setCue(0, 0, NONE, 1, 100) = 0;"
                + "reel(0, 6) = 0; scene(0, 0, 5) = NONE; piece(2, 3) = 0");
        S.holds("7: 0 with NONE, though a late cue is before it", before + "setCue(0, 0, 0, 9, 80);"
                + "setCue(0, 1, NONE, 9, 80) = 0; scene(0, 1, 10) = 0");
        S.holds("7: NONE where none is, undoable", before + "undo(); setCue(0, 1, NONE, 1, 100) = 0; count(7) = 6;"
                + "reel(0, 6) = 0; undo() = 5");
        S.holds("7: the same cue again, undoable", THREE + "addPiece(0, 50, 0); setCue(0, 0, 0, 1, 100);"
                + "setCue(0, 0, 0, 1, 100) = -50; count(7) = 6; undo() = 5; scene(0, 0, 5) = 0; undo() = 4;"
                + "scene(0, 0, 5) = NONE");
        S.holds("7: refused, and the cue before stays", before + "setCue(0, 0, 2, 1, 100) = 1;"
                + "setCue(0, 0, 0, 0, 100) ! argument; setCue(0, 0, 4, 1, 100) ! index; scene(0, 0, 5) = 2;"
                + "scene(0, 0, 10) = 1");
    }

    /** A cue begins when its scene begins, or when the cue before it has ended, if that is later. */
    static void beginnings() {
        String before = THREE + PIECES + "addPiece(0, 200, 0); addPiece(0, 199, 0); addPiece(0, 201, 0); ";
        S.holds("terms: begins with its scene, when the cue before ends one before", before + "setCue(0, 0, 1, 1, 100) = -1;"
                + "setCue(0, 1, 3, 1, 100) = -90; scene(0, 1, 8) = 100");
        S.holds("terms: begins with its scene, when the cue before ends just then", before + "setCue(0, 0, 0, 1, 100) = 0;"
                + "setCue(0, 1, 3, 1, 100) = -90; scene(0, 1, 8) = 100");
        S.holds("terms: begins when the cue before has ended, if that is one later", before + "setCue(0, 0, 2, 1, 100) = 1;"
                + "setCue(0, 1, 3, 1, 100) = -89; scene(0, 1, 8) = 101");
        S.holds("terms: the cue of an earlier scene ends just then, one before, one later", before
                + "setCue(0, 0, 4, 1, 100) = 100; setCue(0, 2, 3, 1, 100) = -90; scene(0, 2, 8) = 200;"
                        + "setCue(0, 0, 5, 1, 100) = 99; scene(0, 2, 8) = 200; scene(0, 2, 10) = -90;"
                        + "setCue(0, 0, 6, 1, 100) = 101; scene(0, 2, 8) = 201; scene(0, 2, 10) = -89");
        S.holds("terms: one after the other, each pushed by the one before", before + "setCue(0, 0, 6, 1, 100) = 101;"
                + "setCue(0, 1, 3, 1, 100) = 11; setCue(0, 2, 3, 1, 100) = -79; scene(0, 1, 8) = 201; scene(0, 2, 8) = 211");
        S.holds("terms: the first scene's cue begins at 0", before + "setCue(0, 0, 0, 1, 100) = 0; scene(0, 0, 8) = 0;"
                + "scene(0, 0, 9) = 100");
        S.holds("terms: what plays on is not cut off", before + "setCue(0, 0, 6, 1, 100); scene(0, 0, 9) = 201;"
                + "setCue(0, 1, 3, 1, 100); scene(0, 0, 9) = 201; reel(0, 9) = 89");
        S.holds("terms: the music of a reel does not play on in another", before + "addScene(1, 10); setCue(0, 0, 0, 9, 80);"
                + "setCue(1, 0, 0, 1, 100) = 0; scene(1, 0, 8) = 0");
        S.holds("terms: scenes without time share a beginning", "3 * addScene(0, 10); splice(0, 10, 10);"
                + "addPiece(0, 100, 0); setCue(0, 0, 0, 1, 100) = 0; setCue(0, 1, 0, 1, 100) = 100;"
                + "setCue(0, 2, 0, 1, 100) = 100; scene(0, 1, 8) = 100; scene(0, 2, 8) = 200");
    }

    /** The drift of a cue is bad if its size is more than the tolerance (0 to 600, at first 20). */
    static void badDrifts() {
        String[] drifts = {"120 20 0", "121 21 1", "80 -20 0", "79 -21 1", "100 0 0"};
        for (String row : drifts) {
            bad("", "addScene(0, 10); ", row);
        }
        for (String row : new String[] {"100 0 0", "101 1 1", "99 -1 1"}) {
            bad("set(0, 5); ", "addScene(0, 10); ", row);
        }
        for (String row : new String[] {"700 600 0", "701 601 1"}) {
            bad("set(600, 5); ", "addScene(0, 10); ", row);
        }
        for (String row : new String[] {"400 -600 0", "399 -601 1"}) {
            bad("set(600, 5); ", "addScene(0, 100); ", row);
        }
    }

    static void bad(String set, String scene, String row) {
        String[] parts = row.split(" ");
        S.holds("terms: bad if its size is more than the tolerance", scene + set + "addPiece(0, " + parts[0] + ", 0);"
                + "setCue(0, 0, 0, 1, 100) = " + parts[1]
                + "; scene(0, 0, 11) = B; reel(0, 7) = B; count(3) = B; ifCranked(0, 16) = B".replace("B", parts[2]));
    }

    static void fit() {
        S.holds("8: no scenes", "fit(0) = 0; fit(1) = 0; fit(2) = 0; count(7) = 3");
        S.holds("8: no cues", THREE + PIECES + "fit(0) = 0; reel(0, 6) = 0; scene(0, 0, 5) = NONE");
        S.holds("8: undoable, also if it changes nothing", "addScene(0, 10); addPiece(0, 100, 0); setCue(0, 0, 0, 1, 100);"
                + "fit(0) = 0; count(7) = 4; undo() = 3; scene(0, 0, 5) = 0; undo() = 2; scene(0, 0, 5) = NONE");
        S.holds("8: only other strains", "addScene(0, 10); addPiece(0, 50, 0); setCue(0, 0, 0, 1, 100); fit(0) = 1;"
                + "scene(0, 0, 6) = 2; scene(0, 0, 7) = 100; fit(0) = 0");
        S.holds("8: only another pace", "addScene(0, 10); addPiece(0, 50, 0); setCue(0, 0, 0, 2, 101); fit(0) = 1;"
                + "scene(0, 0, 6) = 2; scene(0, 0, 7) = 100; fit(0) = 0");
        S.holds("8: other strains and another pace count once", "addScene(0, 10); addPiece(0, 50, 0);"
                + "setCue(0, 0, 0, 9, 80); fit(0) = 1; scene(0, 0, 10) = 0; undo() = 3; scene(0, 0, 6) = 9;"
                + "scene(0, 0, 7) = 80");
        S.holds("8: ten cues", "10 * addScene(0, 10); addPiece(0, 50, 0); " + Sentences.cues(10, 0, 9, 80) + "fit(0) = 10;"
                + "reel(0, 8) = 0; scene(0, 9, 6) = 2; scene(0, 9, 7) = 100; fit(0) = 0");
        S.holds("8: those that have cues, no others", THREE + PIECES + "setCue(0, 1, 3, 1, 80); fit(0) = 1;"
                + "scene(0, 0, 5) = NONE; scene(0, 1, 5) = 3; scene(0, 1, 6) = 9; scene(0, 1, 7) = 95;"
                + "scene(0, 2, 5) = NONE");
        S.holds("8: with their pieces", THREE + PIECES + "setCue(0, 0, 3, 1, 100); setCue(0, 2, 0, 2, 100); fit(0) = 2;"
                + "scene(0, 0, 5) = 3; scene(0, 2, 5) = 0");
        S.holds("8: one reel alone", THREE + "addScene(1, 10); addPiece(0, 50, 0); setCue(1, 0, 0, 9, 80);"
                + "setCue(0, 0, 0, 9, 80); fit(0) = 1; scene(1, 0, 6) = 9; scene(1, 0, 7) = 80; fit(1) = 1;"
                + "scene(1, 0, 6) = 2");
        S.holds("8: each one by the cues before it as they are then", "2 * addScene(0, 10); addPiece(0, 50, 0);"
                + "setCue(0, 0, 0, 4, 100) = 100; setCue(0, 1, 0, 1, 100) = 50; fit(0) = 2; scene(0, 0, 6) = 2;"
                + "scene(0, 1, 6) = 2; reel(0, 8) = 0");
        S.holds("8: not by the cues behind it", "2 * addScene(0, 10); addPiece(0, 50, 0); setCue(0, 1, 0, 9, 80);"
                + "setCue(0, 0, 0, 2, 100) = 0; fit(0) = 1; scene(0, 0, 6) = 2; scene(0, 1, 6) = 2");
        S.holds("8: where the cue begins behind its scene, the shortest", "2 * addScene(0, 1); addPiece(0, 50, 0);"
                + "setCue(0, 0, 0, 9, 100); setCue(0, 1, 0, 9, 100); fit(0) = 2; scene(0, 0, 6) = 1; scene(0, 0, 7) = 105;"
                + "scene(0, 1, 6) = 1; scene(0, 1, 7) = 105; scene(0, 1, 8) = 47; scene(0, 1, 10) = 74");
    }

    static void set() {
        S.range("9: tolerance 0 to 600", "", "set(%, 7)", 0, 600, "argument");
        S.range("9: leeway 0 to 20", "", "set(7, %)", 0, 20, "argument");
        S.holds("9: 100 times the previous tolerance, plus the previous leeway", "set(600, 20) = 2005; set(0, 0) = 60020;"
                + "set(1, 0) = 0; set(0, 1) = 100; set(5, 5) = 1; count(4) = 5; count(5) = 5");
        S.holds("9: refused, and the previous ones stay", "set(601, 20) ! argument; set(600, 21) ! argument;"
                + "set(-1, -1) ! argument; count(4) = 20; count(5) = 5; set(600, 20) = 2005");
        S.holds("9: undoable, also if it changes nothing", "set(20, 5) = 2005; count(7) = 1; set(3, 4) = 2005; undo() = 1;"
                + "count(4) = 20; count(5) = 5; undo() = 0");
    }

    static void piece() {
        S.range("18: its number", PIECES, "piece(%, 1)", 0, 3, "index");
        S.range("18: what 0 to 3", PIECES, "piece(2, %)", 0, 3, "argument");
        S.holds("18: no pieces", "piece(0, 0) ! index; piece(0, 3) ! index; piece(NONE, 0) ! index; addPiece(0, 10, 0);"
                + "piece(0, 1) = 10; piece(1, 1) ! index");
        S.holds("18: eight pieces", "7 * addPiece(0, 10, 0); addPiece(1, 12, 3); piece(7, 0) = 1; piece(7, 1) = 12;"
                + "piece(7, 2) = 3; piece(7, 3) = 0; piece(8, 0) ! index");
        S.holds("18: no cues have it", THREE + PIECES + "setCue(0, 0, 1, 1, 100); piece(0, 3) = 0; piece(1, 3) = 1;"
                + "setCue(0, 0, 0, 1, 100); piece(1, 3) = 0; piece(0, 3) = 1");
        S.holds("18: cues of all reels", THREE + "addScene(1, 5); addScene(2, 5); addPiece(0, 10, 0);"
                + "setCue(0, 0, 0, 1, 100); setCue(0, 2, 0, 1, 100); setCue(1, 0, 0, 1, 100); setCue(2, 0, 0, 1, 100);"
                + "piece(0, 3) = 4; removeScene(2, 0); piece(0, 3) = 3; setCue(1, 0, NONE, 1, 100); piece(0, 3) = 2; undo();"
                + "undo(); piece(0, 3) = 4");
        S.holds("18: thirty cues", "addPiece(0, 10, 0); type 1:0x1,1:0x1,1:0x1,1:0x1,1:0x1,1:0x1,1:0x1,1:0x1,1:0x1,1:0x1;"
                + "load(0) = 10; type 1:0x1,1:0x1,1:0x1,1:0x1,1:0x1,1:0x1,1:0x1,1:0x1,1:0x1,1:0x1; load(1) = 10;"
                + "type 1:0x1,1:0x1,1:0x1,1:0x1,1:0x1,1:0x1,1:0x1,1:0x1,1:0x1,1:0x1; load(2) = 10; piece(0, 3) = 30;"
                + "count(2) = 30");
    }

    /** Scene 0 of a reel of one scene, with one piece and a leeway. */
    static void best(String sentence, String scene, String piece, int leeway, int due) {
        S.holds(sentence, scene + "addPiece(" + piece + "); set(20, " + leeway + "); bestCue(0, 0, 0) = " + due + ";"
                + "addScene(0, 1); setCue(0, 0, 0, 9, 80); fit(0); scene(0, 0, 6) = "
                + due / 1000 + "; scene(0, 0, 7) = " + due % 1000);
    }

    static void bestCue() {
        String before = THREE + PIECES;
        S.range("20: its number", before, "bestCue(0, %, 0)", 0, 2, "index");
        S.range("20: the piece", before, "bestCue(0, 0, %)", 0, 3, "index");
        S.holds("20: the piece, NONE is none", before + "bestCue(0, 0, NONE) ! index; bestCue(0, 0, 0) = 1100");
        S.holds("20: no pieces", THREE + "bestCue(0, 0, 0) ! index; addPiece(0, 100, 0); bestCue(0, 0, 0) = 1100");
        S.holds("20: no scenes", PIECES + "bestCue(0, 0, 0) ! index; addScene(0, 10); bestCue(0, 0, 0) = 1100;"
                + "bestCue(0, 1, 0) ! index");
        S.holds("20: the eighth piece and the tenth scene", "10 * addScene(2, 10); 8 * addPiece(0, 20, 0);"
                + "bestCue(2, 9, 7) = 5100; bestCue(2, 10, 7) ! index; bestCue(2, 9, 8) ! index");
        S.holds("20: at first the leeway is 5", "addScene(0, 100); addPiece(0, 950, 0); addPiece(0, 940, 0);"
                + "bestCue(0, 0, 0) = 1095; bestCue(0, 0, 1) = 1095");
        String hundred = "addScene(0, 100); ";
        best("terms: paces from 100 minus the leeway", hundred, "0, 950, 0", 5, 1095);
        best("terms: no pace below 100 minus the leeway", hundred, "0, 950, 0", 4, 1096);
        best("terms: paces to 100 plus the leeway", hundred, "0, 1050, 0", 5, 1105);
        best("terms: no pace above 100 plus the leeway", hundred, "0, 1050, 0", 4, 1104);
        best("terms: leeway 20, slowest", hundred, "0, 800, 0", 20, 1080);
        best("terms: leeway 19, slowest", hundred, "0, 800, 0", 19, 1081);
        best("terms: leeway 20, fastest", hundred, "0, 1200, 0", 20, 1120);
        best("terms: leeway 19, fastest", hundred, "0, 1200, 0", 19, 1119);
        best("terms: leeway 0, slower would be better", hundred, "0, 950, 0", 0, 1100);
        best("terms: leeway 0, faster would be better", hundred, "0, 1050, 0", 0, 1100);
        best("terms: leeway 1, both neighbours of 100", hundred, "0, 990, 0", 1, 1099);
        best("terms: leeway 1, both neighbours of 100", hundred, "0, 1010, 0", 1, 1101);
        best("terms: one off at 100 is not the least", "addScene(0, 10); ", "0, 101, 0", 5, 1101);
        best("terms: one off at 100 is not the least", "addScene(0, 10); ", "0, 99, 0", 5, 1099);
        best("terms: one strain is exact", hundred, "300, 200, 500", 5, 1100);
        best("terms: nine strains are exact", hundred, "10, 100, 90", 5, 9100);
        best("terms: ten strains are none", hundred, "0, 100, 0", 5, 9095);
        best("terms: no strains are none", "addScene(0, 40); ", "200, 900, 200", 5, 1105);
        best("terms: the shortest feet, the longest piece", "addScene(0, 1); ", "600, 1200, 600", 20, 1120);
        best("terms: the longest scene, the shortest piece", "crank(0, 0, 10); addScene(0, 900); ", "0, 10, 0", 20, 9080);
        bestCueTies();
        bestCueBeginnings();
    }

    static void bestCueTies() {
        // 13 plays as 13 at 95 to 100.
        best("terms: of several the pace nearest to 100, itself", "crank(0, 0, 12); addScene(0, 1); ", "0, 13, 0", 5, 1100);
        // 19 plays as 20 at 95, as 19 at 96 to 100; two strains as 36 at 103 to 105: with 28, one at 95 and two at 103 are 8 off.
        best("terms: the pace nearest to 100 goes before the fewest strains", "crank(0, 0, 11); addScene(0, 2); ",
                "0, 19, 0", 5, 2103);
        // One strain is 50 too short, two are 50 too long.
        best("terms: of several with one pace the fewest strains", "addScene(0, 15); ", "0, 100, 0", 0, 1100);
        // With 16: 20 at 100 is 4 off, 19 at 101 is 3 off.
        best("terms: the least size goes before the nearest pace", "crank(0, 0, 10); addScene(0, 1); ", "0, 10, 0", 1, 2101);
        best("terms: leeway 0 leaves the nearest pace alone", "crank(0, 0, 10); addScene(0, 1); ", "0, 10, 0", 0, 2100);
    }

    static void bestCueBeginnings() {
        String two = "2 * addScene(0, 10); " + PIECES + "addPiece(0, 150, 0); addPiece(0, 300, 0); addPiece(0, 190, 0); ";
        S.holds("terms: by the cue before, that ends with its scene", two + "setCue(0, 0, 0, 1, 100) = 0;"
                + "bestCue(0, 1, 0) = 1100; bestCue(0, 1, 3) = 9095");
        S.holds("terms: by the cue before, that ends later", two + "setCue(0, 0, 4, 1, 100) = 50; bestCue(0, 1, 3) = 5100;"
                + "bestPiece(0, 1) = 3");
        S.holds("terms: by the cue before, that ends as the scene ends", two + "setCue(0, 0, 0, 2, 100) = 100;"
                + "bestCue(0, 1, 3) = 1101; bestPiece(0, 1) = 3");
        S.holds("terms: by the cue before, that ends behind the scene", two + "setCue(0, 0, 5, 1, 100) = 200;"
                + "bestCue(0, 1, 3) = 1101; bestCue(0, 1, 0) = 1105");
        S.holds("terms: whether the scene has a cue or not", two + "bestCue(0, 1, 0) = 1100; setCue(0, 1, 5, 9, 80);"
                + "bestCue(0, 1, 0) = 1100; setCue(0, 1, NONE, 9, 80); bestCue(0, 1, 0) = 1100");
        S.holds("terms: not by the cues of later scenes", two + "setCue(0, 1, 5, 9, 80); bestCue(0, 0, 0) = 1100");
        S.holds("terms: by the cue of a scene earlier still", "3 * addScene(0, 10); " + PIECES + "addPiece(0, 250, 0);"
                + "setCue(0, 0, 4, 1, 100) = 150; bestCue(0, 2, 3) = 5100; bestCue(0, 1, 3) = 1101");
        S.holds("20: nothing is changed", two + "setCue(0, 1, 0, 9, 80); bestCue(0, 1, 0) = 1100; scene(0, 1, 6) = 9;"
                + "scene(0, 1, 7) = 80; count(7) = 6");
        S.same("20: nothing is changed", two, "bestCue(0, 1, 0)", "");
        S.same("21: nothing is changed", two, "bestPiece(0, 1)", "");
    }

    static void bestPiece() {
        String before = THREE + PIECES;
        S.range("21: its number", before, "bestPiece(0, %)", 0, 2, "index");
        S.holds("21: no pieces", THREE + "bestPiece(0, 0) = NONE; bestPiece(0, 2) = NONE; bestPiece(0, 3) ! index;"
                + "addPiece(600, 1200, 600) = 0; bestPiece(0, 0) = 0; undo(); bestPiece(0, 0) = NONE");
        S.holds("21: no scenes", "bestPiece(0, 0) ! index; addPiece(0, 10, 0); bestPiece(0, 0) ! index; addScene(0, 1);"
                + "bestPiece(0, 0) = 0");
        S.holds("21: of several the lowest one", "addScene(0, 10); addPiece(0, 50, 0); addPiece(0, 100, 0);"
                + "addPiece(50, 50, 0); bestPiece(0, 0) = 0");
        S.holds("21: of several the lowest one, behind a worse one", "addScene(0, 10); addPiece(0, 1200, 0);"
                + "addPiece(0, 100, 0); addPiece(0, 50, 0); bestPiece(0, 0) = 1");
        S.holds("21: too short and too long by the same", "addScene(0, 10); set(20, 0); addPiece(0, 101, 0);"
                + "addPiece(0, 11, 0); addPiece(0, 99, 0); bestPiece(0, 0) = 0; bestCue(0, 0, 1) = 9100");
        S.holds("21: the eighth piece", "addScene(0, 10); 7 * addPiece(0, 150, 0); addPiece(0, 149, 0) = 7;"
                + "bestPiece(0, 0) = 7; bestCue(0, 0, 7) = 1105");
        S.holds("21: eight pieces alike", "addScene(0, 10); 8 * addPiece(0, 150, 0); bestPiece(0, 0) = 0");
        S.holds("21: the tenth scene", "10 * addScene(1, 10); addPiece(0, 70, 0); addPiece(0, 100, 0); bestPiece(1, 9) = 1;"
                + "bestPiece(1, 10) ! index; bestPiece(1, 9) = 1");
        S.holds("21: its own cue does not count", before + "bestPiece(0, 1) = 0; setCue(0, 1, 3, 9, 80);"
                + "bestPiece(0, 1) = 0; setCue(0, 2, 3, 9, 80); bestPiece(0, 1) = 0");
    }

    public static void main(String[] args) {
        addPiece();
        playTimes();
        setCue();
        beginnings();
        badDrifts();
        fit();
        set();
        piece();
        bestCue();
        bestPiece();
        S.end();
    }
}
