/** The hash that promise 26 asks for, made from the answers of the other methods and a buffer. */
final class Digests {
    private long hash = 2237;

    static long of(CueSheets sheets, String buffer) {
        Digests digest = new Digests();
        digest.addAll(sheets);
        digest.add(buffer.length());
        for (int i = 0; i < buffer.length(); i++) {
            digest.add(buffer.charAt(i));
        }
        return digest.hash;
    }

    private void add(long value) {
        hash = 31 * hash + value;
    }

    private void addAll(CueSheets sheets) {
        for (int what = 0; what < 8; what++) {
            add(sheets.count(what));
        }
        for (int piece = 0; piece < sheets.count(1); piece++) {
            for (int what = 0; what < 4; what++) {
                add(sheets.piece(piece, what));
            }
        }
        for (int reel = 0; reel < 3; reel++) {
            addReel(sheets, reel);
        }
    }

    private void addReel(CueSheets sheets, int reel) {
        for (int what = 0; what < 11; what++) {
            add(sheets.reel(reel, what));
        }
        for (int scene = 0; scene < sheets.reel(reel, 0); scene++) {
            for (int what = 0; what < 12; what++) {
                add(sheets.scene(reel, scene, what));
            }
            add(sheets.bestPiece(reel, scene));
        }
        for (int foot = 0; foot <= 900; foot += 100) {
            add(sheets.speedAt(reel, foot));
        }
        add(sheets.bestSpeed(reel));
        add(Float.floatToIntBits(sheets.offShare(reel)));
        add(Double.doubleToLongBits(sheets.meanSpeed(reel)));
    }
}
