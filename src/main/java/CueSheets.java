/** Cue sheets for silent films; ../shared/DOC.md says what each call promises. */
public final class CueSheets {
    public static final int NONE = -2000001;

    private static final int REELS = 3;
    private static final int MAX_SCENES = 10;
    private static final int MAX_LENGTH = 900;
    private static final int MAX_MARKS = 6;
    private static final int MAX_FOOT = 9000;
    private static final int MIN_SPEED = 10;
    private static final int MAX_SPEED = 30;
    private static final int FIRST_SPEED = 16;
    private static final int OWN_SPEEDS = 0;
    private static final int MAX_LOST = 50;
    private static final int FRAMES_IN_FOOT = 16;
    private static final int MAX_PIECES = 8;
    private static final int MAX_OPENING = 600;
    private static final int MIN_STRAIN = 10;
    private static final int MAX_STRAIN = 1200;
    private static final int MAX_CLOSE = 600;
    private static final int MAX_STRAINS = 9;
    private static final int MIN_PACE = 80;
    private static final int USUAL_PACE = 100;
    private static final int MAX_PACE = 120;
    private static final int ABOVE_ALL_DRIFTS = 1000000000;
    private static final int MAX_TOLERANCE = 600;
    private static final int FIRST_TOLERANCE = 20;
    private static final int MAX_LEEWAY = 20;
    private static final int FIRST_LEEWAY = 5;
    private static final int MIN_CODE = 33;
    private static final int MAX_CODE = 126;
    private static final int MAX_BUFFER = 60;
    private static final int MAX_SAVED = 6;
    private static final int COUNT_PROPERTIES = 8;
    private static final int PIECE_PROPERTIES = 4;
    private static final int REEL_PROPERTIES = 11;
    private static final int SCENE_PROPERTIES = 12;
    private static final long FIRST_HASH = 2237;

    private final State now;
    private final State[] saved;
    private int oldestSaved;
    private int savedStates;
    private final Row buffer;
    private final SheetReader reader;
    private final Timing timing;
    private final Timing trial;
    private final Choice choice;

    public CueSheets() {
        now = new State();
        saved = new State[MAX_SAVED];
        for (int i = 0; i < saved.length; i++) {
            saved[i] = new State();
        }
        buffer = new Row(MAX_BUFFER);
        reader = new SheetReader();
        timing = new Timing();
        trial = new Timing();
        choice = new Choice();
    }

    // ---- reels

    public int addScene(int reel, int length)
            throws IndexOutOfBoundsException, IllegalArgumentException, IllegalStateException {
        requireReel(reel);
        requireRange(length, 1, MAX_LENGTH);
        Reel film = now.reelAt(reel);
        if (film.scenes() >= MAX_SCENES) {
            throw new IllegalStateException("the reel has all its scenes");
        }
        save();
        film.extend(length, NONE, 0, 0);
        return film.scenes() - 1;
    }

    public int removeScene(int reel, int scene) throws IndexOutOfBoundsException {
        requireScene(reel, scene);
        save();
        Reel film = now.reelAt(reel);
        film.cutOut(scene);
        return film.scenes();
    }

    public int crank(int reel, int foot, int speed)
            throws IndexOutOfBoundsException, IllegalArgumentException, IllegalStateException {
        requireReel(reel);
        requireRange(foot, 0, MAX_FOOT);
        requireRange(speed, MIN_SPEED, MAX_SPEED);
        Marks speeds = now.reelAt(reel).speeds;
        if (!speeds.hasRoomFor(foot)) {
            throw new IllegalStateException("the reel has all its speeds");
        }
        save();
        speeds.mark(foot, speed);
        return speeds.size();
    }

    public int splice(int reel, int foot, int lost)
            throws IndexOutOfBoundsException, IllegalArgumentException, IllegalStateException {
        requireReel(reel);
        requireRange(foot, 0, MAX_FOOT);
        requireRange(lost, 0, MAX_LOST);
        Marks splices = now.reelAt(reel).splices;
        if (lost != 0 && !splices.hasRoomFor(foot)) {
            throw new IllegalStateException("the reel has all its splices");
        }
        save();
        if (lost == 0) {
            splices.unmark(foot);
        } else {
            splices.mark(foot, lost);
        }
        return splices.size();
    }

    // ---- music and cues

    public int addPiece(int opening, int strain, int close)
            throws IllegalArgumentException, IllegalStateException {
        requireRange(opening, 0, MAX_OPENING);
        requireRange(strain, MIN_STRAIN, MAX_STRAIN);
        requireRange(close, 0, MAX_CLOSE);
        if (now.pieces() >= MAX_PIECES) {
            throw new IllegalStateException("all pieces are there");
        }
        save();
        now.openings.add(opening);
        now.strains.add(strain);
        now.closes.add(close);
        return now.pieces() - 1;
    }

    public int setCue(int reel, int scene, int piece, int strains, int pace)
            throws IndexOutOfBoundsException, IllegalArgumentException {
        requireScene(reel, scene);
        if (piece != NONE) {
            requirePiece(piece);
        }
        requireRange(strains, 1, MAX_STRAINS);
        requireRange(pace, MIN_PACE, MAX_PACE);
        save();
        Reel film = now.reelAt(reel);
        if (piece == NONE) {
            film.giveCue(scene, NONE, 0, 0);
            return 0;
        }
        film.giveCue(scene, piece, strains, pace);
        timing.measure(now, film, OWN_SPEEDS);
        return timing.drifts.at(scene);
    }

    public int fit(int reel) throws IndexOutOfBoundsException {
        requireReel(reel);
        save();
        Reel film = now.reelAt(reel);
        int changed = 0;
        for (int i = 0; i < film.scenes(); i++) {
            if (film.hasCue(i) && fitScene(film, i)) {
                changed++;
            }
        }
        return changed;
    }

    public int set(int tolerance, int leeway) throws IllegalArgumentException {
        requireRange(tolerance, 0, MAX_TOLERANCE);
        requireRange(leeway, 0, MAX_LEEWAY);
        save();
        int before = 100 * now.tolerance + now.leeway;
        now.tolerance = tolerance;
        now.leeway = leeway;
        return before;
    }

    // ---- texts

    public int append(int code) throws IllegalArgumentException, IllegalStateException {
        requireRange(code, MIN_CODE, MAX_CODE);
        if (buffer.size() >= MAX_BUFFER) {
            throw new IllegalStateException("the buffer is full");
        }
        buffer.add(code);
        return buffer.size();
    }

    public int clearBuffer() {
        int length = buffer.size();
        buffer.clear();
        return length;
    }

    public int firstError() {
        return readBuffer();
    }

    public int load(int reel)
            throws IndexOutOfBoundsException, IllegalArgumentException, IllegalStateException {
        requireReel(reel);
        if (readBuffer() < buffer.size() || !reader.isComplete()) {
            throw new IllegalArgumentException("the buffer is not a complete sheet");
        }
        Reel film = now.reelAt(reel);
        if (film.scenes() + reader.scenes() > MAX_SCENES || !hasPiecesThatWereRead()) {
            throw new IllegalStateException("too many scenes, or no such piece");
        }
        save();
        for (int i = 0; i < reader.scenes(); i++) {
            film.extend(reader.lengths.at(i), reader.pieces.at(i), reader.strains.at(i), reader.paces.at(i));
        }
        buffer.clear();
        return film.scenes();
    }

    public int undo() throws IllegalStateException {
        if (savedStates <= 0) {
            throw new IllegalStateException("no state is saved");
        }
        State latest = savedAt(savedStates - 1);
        if (latest != null) {
            now.takeFrom(latest);
        }
        savedStates--;
        return savedStates;
    }

    // ---- what there is

    public int scene(int reel, int scene, int what)
            throws IndexOutOfBoundsException, IllegalArgumentException {
        requireScene(reel, scene);
        requireRange(what, 0, SCENE_PROPERTIES - 1);
        Reel film = now.reelAt(reel);
        timing.measure(now, film, OWN_SPEEDS);
        return sceneProperty(film, scene, what);
    }

    public int reel(int reel, int what) throws IndexOutOfBoundsException, IllegalArgumentException {
        requireReel(reel);
        requireRange(what, 0, REEL_PROPERTIES - 1);
        Reel film = now.reelAt(reel);
        timing.measure(now, film, OWN_SPEEDS);
        return reelProperty(film, what);
    }

    public int speedAt(int reel, int foot) throws IndexOutOfBoundsException, IllegalArgumentException {
        requireReel(reel);
        requireRange(foot, 0, MAX_FOOT);
        return now.reelAt(reel).speeds.valueHoldingAt(foot);
    }

    public int piece(int piece, int what) throws IndexOutOfBoundsException, IllegalArgumentException {
        requirePiece(piece);
        requireRange(what, 0, PIECE_PROPERTIES - 1);
        return pieceProperty(piece, what);
    }

    public int count(int what) throws IllegalArgumentException {
        requireRange(what, 0, COUNT_PROPERTIES - 1);
        return countProperty(what);
    }

    // ---- what would be; nothing is changed

    public int bestCue(int reel, int scene, int piece) throws IndexOutOfBoundsException {
        requireScene(reel, scene);
        requirePiece(piece);
        timing.measure(now, now.reelAt(reel), OWN_SPEEDS);
        choice.search(now, piece, timing.roomForCue(scene));
        return 1000 * choice.strains + choice.pace;
    }

    public int bestPiece(int reel, int scene) throws IndexOutOfBoundsException {
        requireScene(reel, scene);
        timing.measure(now, now.reelAt(reel), OWN_SPEEDS);
        return pieceForRoom(timing.roomForCue(scene));
    }

    public int ifCranked(int reel, int speed) throws IndexOutOfBoundsException, IllegalArgumentException {
        requireReel(reel);
        requireRange(speed, MIN_SPEED, MAX_SPEED);
        trial.measure(now, now.reelAt(reel), speed);
        return trial.badDrifts;
    }

    public int bestSpeed(int reel) throws IndexOutOfBoundsException {
        requireReel(reel);
        return speedForReel(now.reelAt(reel));
    }

    public float offShare(int reel) throws IndexOutOfBoundsException {
        requireReel(reel);
        timing.measure(now, now.reelAt(reel), OWN_SPEEDS);
        return measuredOffShare();
    }

    public double meanSpeed(int reel) throws IndexOutOfBoundsException {
        requireReel(reel);
        timing.measure(now, now.reelAt(reel), OWN_SPEEDS);
        return measuredMeanSpeed();
    }

    public long digest() {
        long hash = FIRST_HASH;
        for (int what = 0; what < COUNT_PROPERTIES; what++) {
            hash = mix(hash, countProperty(what));
        }
        for (int i = 0; i < now.pieces(); i++) {
            for (int what = 0; what < PIECE_PROPERTIES; what++) {
                hash = mix(hash, pieceProperty(i, what));
            }
        }
        for (int i = 0; i < REELS; i++) {
            hash = mixReel(hash, now.reelAt(i));
        }
        hash = mix(hash, buffer.size());
        for (int i = 0; i < buffer.size(); i++) {
            hash = mix(hash, buffer.at(i));
        }
        return hash;
    }

    // ---- tests of arguments

    private void requireReel(int reel) {
        if (reel < 0 || reel >= REELS) {
            throw new IndexOutOfBoundsException("no such reel");
        }
    }

    private void requireScene(int reel, int scene) {
        requireReel(reel);
        if (scene < 0 || scene >= now.reelAt(reel).scenes()) {
            throw new IndexOutOfBoundsException("no such scene");
        }
    }

    private void requirePiece(int piece) {
        if (!now.hasPiece(piece)) {
            throw new IndexOutOfBoundsException("no such piece");
        }
    }

    private static void requireRange(int value, int least, int most) {
        if (value < least || value > most) {
            throw new IllegalArgumentException("an argument is out of range");
        }
    }

    // ---- saved states

    private void save() {
        if (savedStates >= MAX_SAVED) {
            oldestSaved = (oldestSaved + 1) % MAX_SAVED;
            savedStates = MAX_SAVED - 1;
        }
        State room = savedAt(savedStates);
        if (room != null) {
            room.takeFrom(now);
            savedStates++;
        }
    }

    /** The saved state with this age rank, 0 for the oldest; the row is used as a ring. */
    private State savedAt(int rank) {
        int place = (oldestSaved + rank) % MAX_SAVED;
        return place >= 0 && place < saved.length ? saved[place] : null;
    }

    // ---- texts

    /** Reads the buffer and returns where the first syntax error is, or its length. */
    private int readBuffer() {
        reader.begin();
        for (int i = 0; i < buffer.size(); i++) {
            if (!reader.read(buffer.at(i))) {
                return i;
            }
        }
        return buffer.size();
    }

    private boolean hasPiecesThatWereRead() {
        for (int i = 0; i < reader.scenes(); i++) {
            int piece = reader.pieces.at(i);
            if (piece != NONE && !now.hasPiece(piece)) {
                return false;
            }
        }
        return true;
    }

    // ---- the best

    /** Gives a scene the best cue with its piece; tells whether strains or pace changed. */
    private boolean fitScene(Reel film, int scene) {
        int piece = film.pieces.at(scene);
        timing.measure(now, film, OWN_SPEEDS);
        choice.search(now, piece, timing.roomForCue(scene));
        boolean changes = film.strains.at(scene) != choice.strains || film.paces.at(scene) != choice.pace;
        film.giveCue(scene, piece, choice.strains, choice.pace);
        return changes;
    }

    private int pieceForRoom(int room) {
        int best = NONE;
        int bestSize = 0;
        for (int i = 0; i < now.pieces(); i++) {
            choice.search(now, i, room);
            if (best == NONE || choice.size < bestSize) {
                best = i;
                bestSize = choice.size;
            }
        }
        return best;
    }

    private int speedForReel(Reel film) {
        int best = MIN_SPEED;
        int bestSum = 0;
        for (int speed = MIN_SPEED; speed <= MAX_SPEED; speed++) {
            trial.measure(now, film, speed);
            if (speed == MIN_SPEED || trial.driftSum < bestSum) {
                best = speed;
                bestSum = trial.driftSum;
            }
        }
        return best;
    }

    // ---- properties; those of scenes and reels are read from the timing, which has measured the reel before

    private int sceneProperty(Reel film, int scene, int what) {
        switch (what) {
            case 0: return film.lengths.at(scene);
            case 1: return timing.firstFeet.at(scene);
            case 2: return timing.lostFeet.at(scene);
            case 3: return timing.times.at(scene);
            case 4: return timing.begins.at(scene);
            case 5: return film.pieces.at(scene);
            case 6: return film.strains.at(scene);
            case 7: return film.paces.at(scene);
            case 8: return film.hasCue(scene) ? timing.cueBegins.at(scene) : 0;
            case 9: return timing.cueEnds.at(scene);
            case 10: return timing.drifts.at(scene);
            default: return now.isBad(timing.drifts.at(scene)) ? 1 : 0;
        }
    }

    private int reelProperty(Reel film, int what) {
        switch (what) {
            case 0: return film.scenes();
            case 1: return timing.feet;
            case 2: return timing.lost;
            case 3: return timing.time;
            case 4: return film.speeds.size();
            case 5: return film.splices.size();
            case 6: return timing.cues;
            case 7: return timing.badDrifts;
            case 8: return timing.driftSum;
            case 9: return timing.silence(film);
            default: return timing.musicEnd;
        }
    }

    private int pieceProperty(int piece, int what) {
        switch (what) {
            case 0: return now.openings.at(piece);
            case 1: return now.strains.at(piece);
            case 2: return now.closes.at(piece);
            default: return now.cuesWith(piece);
        }
    }

    private int countProperty(int what) {
        switch (what) {
            case 1: return now.pieces();
            case 4: return now.tolerance;
            case 5: return now.leeway;
            case 7: return savedStates;
            default: return sumOverReels(what);
        }
    }

    private int sumOverReels(int what) {
        int sum = 0;
        for (int i = 0; i < REELS; i++) {
            Reel film = now.reelAt(i);
            timing.measure(now, film, OWN_SPEEDS);
            switch (what) {
                case 0: sum += film.scenes(); break;
                case 2: sum += timing.cues; break;
                case 3: sum += timing.badDrifts; break;
                default: sum += timing.time; break;
            }
        }
        return sum;
    }

    private float measuredOffShare() {
        return timing.time == 0 ? 0.0f : (float) timing.driftSum / (float) timing.time;
    }

    private double measuredMeanSpeed() {
        if (timing.time == 0) {
            return 0.0;
        }
        double frames = (double) ((timing.feet - timing.lost) * FRAMES_IN_FOOT);
        return frames / ((double) timing.time / 10.0);
    }

    // ---- the hash

    private static long mix(long hash, long value) {
        return 31 * hash + value;
    }

    private long mixReel(long before, Reel film) {
        long hash = before;
        timing.measure(now, film, OWN_SPEEDS);
        for (int what = 0; what < REEL_PROPERTIES; what++) {
            hash = mix(hash, reelProperty(film, what));
        }
        for (int i = 0; i < film.scenes(); i++) {
            for (int what = 0; what < SCENE_PROPERTIES; what++) {
                hash = mix(hash, sceneProperty(film, i, what));
            }
            hash = mix(hash, pieceForRoom(timing.roomForCue(i)));
        }
        for (int foot = 0; foot <= 900; foot += 100) {
            hash = mix(hash, film.speeds.valueHoldingAt(foot));
        }
        hash = mix(hash, speedForReel(film));
        hash = mix(hash, floatBits(measuredOffShare()));
        return mix(hash, doubleBits(measuredMeanSpeed()));
    }

    /** The bits of a share: 0, or positive and below 2 to the 24th. LANGUAGE.md lists no Float.floatToIntBits. */
    private static long floatBits(float value) {
        if (!(value > 0.0f)) {
            return 0;
        }
        float scaled = value;
        long exponent = 127 + 23;
        for (int i = 0; i < 300 && scaled < 8388608.0f; i++) {
            scaled = scaled * 2.0f;
            exponent--;
        }
        return (exponent << 23) + ((long) scaled - (1L << 23));
    }

    /** The bits of a speed: 0, or positive and below 2 to the 53rd. LANGUAGE.md lists no Double.doubleToLongBits. */
    private static long doubleBits(double value) {
        if (!(value > 0.0)) {
            return 0;
        }
        double scaled = value;
        long exponent = 1023 + 52;
        for (int i = 0; i < 2200 && scaled < 4503599627370496.0; i++) {
            scaled = scaled * 2.0;
            exponent--;
        }
        return (exponent << 52) + ((long) scaled - (1L << 52));
    }

    /** A list of numbers with a fixed room. All indexes are tested here, so that no caller can leave the array. */
    private static final class Row {
        private final int[] values;
        private int size;

        Row(int room) {
            values = new int[room < 0 ? 0 : room];
        }

        int size() {
            return size;
        }

        int at(int index) {
            return index >= 0 && index < size && index < values.length ? values[index] : 0;
        }

        void put(int index, int value) {
            if (index >= 0 && index < size && index < values.length) {
                values[index] = value;
            }
        }

        void add(int value) {
            if (size >= 0 && size < values.length) {
                values[size] = value;
                size++;
            }
        }

        void insert(int index, int value) {
            add(value);
            for (int i = size - 1; i > index && i > 0; i--) {
                put(i, at(i - 1));
            }
            put(index, value);
        }

        void remove(int index) {
            if (index < 0 || index >= size) {
                return;
            }
            for (int i = index; i < size - 1; i++) {
                put(i, at(i + 1));
            }
            size--;
        }

        void clear() {
            size = 0;
        }

        void takeFrom(Row other) {
            clear();
            for (int i = 0; i < other.size; i++) {
                add(other.at(i));
            }
        }
    }

    /** Feet of a reel in rising order, each with a value: a speed, or how many feet are lost. */
    private static final class Marks {
        private final Row feet;
        private final Row values;

        Marks() {
            feet = new Row(MAX_MARKS);
            values = new Row(MAX_MARKS);
        }

        int size() {
            return feet.size();
        }

        private int placeOf(int foot) {
            int place = 0;
            while (place < feet.size() && feet.at(place) < foot) {
                place++;
            }
            return place;
        }

        private boolean isAt(int place, int foot) {
            return place < feet.size() && feet.at(place) == foot;
        }

        boolean hasRoomFor(int foot) {
            return feet.size() < MAX_MARKS || isAt(placeOf(foot), foot);
        }

        void mark(int foot, int value) {
            int place = placeOf(foot);
            if (isAt(place, foot)) {
                values.put(place, value);
            } else {
                feet.insert(place, foot);
                values.insert(place, value);
            }
        }

        void unmark(int foot) {
            int place = placeOf(foot);
            if (isAt(place, foot)) {
                feet.remove(place);
                values.remove(place);
            }
        }

        int valueHoldingAt(int foot) {
            int value = 0;
            for (int i = 0; i < feet.size() && feet.at(i) <= foot; i++) {
                value = values.at(i);
            }
            return value;
        }

        void takeFrom(Marks other) {
            feet.takeFrom(other.feet);
            values.takeFrom(other.values);
        }
    }

    private static final class Reel {
        private final Row lengths;
        private final Row pieces;
        private final Row strains;
        private final Row paces;
        private final Marks speeds;
        private final Marks splices;

        Reel() {
            lengths = new Row(MAX_SCENES);
            pieces = new Row(MAX_SCENES);
            strains = new Row(MAX_SCENES);
            paces = new Row(MAX_SCENES);
            speeds = new Marks();
            splices = new Marks();
            speeds.mark(0, FIRST_SPEED);
        }

        int scenes() {
            return lengths.size();
        }

        boolean hasCue(int scene) {
            return pieces.at(scene) != NONE;
        }

        void extend(int length, int piece, int strainCount, int pace) {
            lengths.add(length);
            pieces.add(piece);
            strains.add(strainCount);
            paces.add(pace);
        }

        void cutOut(int scene) {
            lengths.remove(scene);
            pieces.remove(scene);
            strains.remove(scene);
            paces.remove(scene);
        }

        void giveCue(int scene, int piece, int strainCount, int pace) {
            pieces.put(scene, piece);
            strains.put(scene, strainCount);
            paces.put(scene, pace);
        }

        /** The splices stand in rising order, so each one adds only what lies behind those before it. */
        int lostBetween(int from, int to) {
            int sum = 0;
            int reached = from;
            for (int i = 0; i < splices.feet.size(); i++) {
                int foot = splices.feet.at(i);
                int begin = Math.max(foot, reached);
                int end = Math.min(foot + splices.values.at(i), to);
                if (end > begin) {
                    sum += end - begin;
                    reached = end;
                }
            }
            return sum;
        }

        private static int footTime(int speed) {
            return speed <= 0 ? 0 : 10 * FRAMES_IN_FOOT / speed;
        }

        /** The time from a foot to another one, with one speed for the whole reel unless that is OWN_SPEEDS. */
        int timeBetween(int from, int to, int wholeSpeed) {
            if (wholeSpeed != OWN_SPEEDS) {
                return (to - from - lostBetween(from, to)) * footTime(wholeSpeed);
            }
            int sum = 0;
            int last = speeds.feet.size() - 1;
            for (int i = 0; i <= last; i++) {
                int begin = Math.max(from, speeds.feet.at(i));
                int end = i < last ? Math.min(to, speeds.feet.at(i + 1)) : to;
                if (begin < end) {
                    sum += (end - begin - lostBetween(begin, end)) * footTime(speeds.values.at(i));
                }
            }
            return sum;
        }

        void takeFrom(Reel other) {
            lengths.takeFrom(other.lengths);
            pieces.takeFrom(other.pieces);
            strains.takeFrom(other.strains);
            paces.takeFrom(other.paces);
            speeds.takeFrom(other.speeds);
            splices.takeFrom(other.splices);
        }
    }

    /** All that undo restores. */
    private static final class State {
        private final Reel first;
        private final Reel second;
        private final Reel third;
        private final Row openings;
        private final Row strains;
        private final Row closes;
        private int tolerance;
        private int leeway;

        State() {
            first = new Reel();
            second = new Reel();
            third = new Reel();
            openings = new Row(MAX_PIECES);
            strains = new Row(MAX_PIECES);
            closes = new Row(MAX_PIECES);
            tolerance = FIRST_TOLERANCE;
            leeway = FIRST_LEEWAY;
        }

        Reel reelAt(int number) {
            return number == 0 ? first : number == 1 ? second : third;
        }

        int pieces() {
            return openings.size();
        }

        boolean hasPiece(int number) {
            return number >= 0 && number < pieces();
        }

        int cuesWith(int number) {
            int sum = 0;
            for (int i = 0; i < REELS; i++) {
                Row used = reelAt(i).pieces;
                for (int j = 0; j < used.size(); j++) {
                    sum += used.at(j) == number ? 1 : 0;
                }
            }
            return sum;
        }

        int playTime(int number, int strainCount, int pace) {
            return timeAtPace(openings.at(number) + strainCount * strains.at(number) + closes.at(number), pace);
        }

        static int timeAtPace(int written, int pace) {
            return pace <= 0 ? 0 : written * 100 / pace;
        }

        boolean isBad(int drift) {
            return Math.abs(drift) > tolerance;
        }

        void takeFrom(State other) {
            first.takeFrom(other.first);
            second.takeFrom(other.second);
            third.takeFrom(other.third);
            openings.takeFrom(other.openings);
            strains.takeFrom(other.strains);
            closes.takeFrom(other.closes);
            tolerance = other.tolerance;
            leeway = other.leeway;
        }
    }

    /** When the scenes and the cues of one reel begin and end; its rows are filled anew by each measuring. */
    private static final class Timing {
        private final Row firstFeet;
        private final Row lostFeet;
        private final Row times;
        private final Row begins;
        /** For scenes without a cue too: when one would begin there. */
        private final Row cueBegins;
        private final Row cueEnds;
        private final Row drifts;
        private int feet;
        private int lost;
        private int time;
        private int cues;
        private int badDrifts;
        private int driftSum;
        private int musicEnd;

        Timing() {
            firstFeet = new Row(MAX_SCENES);
            lostFeet = new Row(MAX_SCENES);
            times = new Row(MAX_SCENES);
            begins = new Row(MAX_SCENES);
            cueBegins = new Row(MAX_SCENES);
            cueEnds = new Row(MAX_SCENES);
            drifts = new Row(MAX_SCENES);
        }

        void measure(State state, Reel film, int wholeSpeed) {
            clear();
            for (int i = 0; i < film.scenes(); i++) {
                int behind = feet + film.lengths.at(i);
                int sceneLost = film.lostBetween(feet, behind);
                int sceneTime = film.timeBetween(feet, behind, wholeSpeed);
                firstFeet.add(feet);
                lostFeet.add(sceneLost);
                times.add(sceneTime);
                begins.add(time);
                feet = behind;
                lost += sceneLost;
                time += sceneTime;
                measureCue(state, film, i);
            }
        }

        private void clear() {
            firstFeet.clear();
            lostFeet.clear();
            times.clear();
            begins.clear();
            cueBegins.clear();
            cueEnds.clear();
            drifts.clear();
            feet = 0;
            lost = 0;
            time = 0;
            cues = 0;
            badDrifts = 0;
            driftSum = 0;
            musicEnd = 0;
        }

        /** Adds the cue of the scene that has just been measured, and ends at time. */
        private void measureCue(State state, Reel film, int scene) {
            int begin = Math.max(begins.at(scene), musicEnd);
            cueBegins.add(begin);
            if (!film.hasCue(scene)) {
                cueEnds.add(0);
                drifts.add(0);
                return;
            }
            musicEnd = begin + state.playTime(film.pieces.at(scene), film.strains.at(scene), film.paces.at(scene));
            int drift = musicEnd - time;
            cueEnds.add(musicEnd);
            drifts.add(drift);
            cues++;
            driftSum += Math.abs(drift);
            badDrifts += state.isBad(drift) ? 1 : 0;
        }

        /** How long a cue of this scene would have to play to end with it; below 0 if it would begin too late. */
        int roomForCue(int scene) {
            return begins.at(scene) + times.at(scene) - cueBegins.at(scene);
        }

        int silence(Reel film) {
            int music = 0;
            for (int i = 0; i < film.scenes(); i++) {
                if (film.hasCue(i)) {
                    music += Math.max(0, Math.min(cueEnds.at(i), time) - cueBegins.at(i));
                }
            }
            return time - music;
        }
    }

    /** The best cue that the latest search has found, and the size of its drift. */
    private static final class Choice {
        private int strains;
        private int pace;
        private int size;

        /** Goes through the cues in the order in which ties are decided, so that only a smaller drift replaces one. */
        void search(State state, int piece, int room) {
            int strain = state.strains.at(piece);
            int unrepeated = state.openings.at(piece) + state.closes.at(piece);
            size = ABOVE_ALL_DRIFTS;
            for (int off = 0; off <= state.leeway && size > 0; off++) {
                tryPaces(unrepeated, strain, room, off);
            }
        }

        private void tryPaces(int unrepeated, int strain, int room, int off) {
            for (int n = 1; n <= MAX_STRAINS; n++) {
                int written = unrepeated + n * strain;
                consider(n, USUAL_PACE - off, State.timeAtPace(written, USUAL_PACE - off) - room);
                int shorterDrift = State.timeAtPace(written, USUAL_PACE + off) - room;
                consider(n, USUAL_PACE + off, shorterDrift);
                // More strains would end later still, at both paces.
                if (shorterDrift >= 0) {
                    return;
                }
            }
        }

        private void consider(int newStrains, int newPace, int drift) {
            if (Math.abs(drift) < size) {
                strains = newStrains;
                pace = newPace;
                size = Math.abs(drift);
            }
        }
    }

    /** Reads a sheet from left to right; what has been read of each scene stands in the rows. */
    private static final class SheetReader {
        private static final int IN_LENGTH = 0;
        private static final int AT_PIECE = 1;
        private static final int BEHIND_PIECE = 2;
        private static final int AT_STRAINS = 3;
        private static final int BEHIND_STRAINS = 4;
        private static final int IN_PACE = 5;

        private final Row lengths;
        private final Row pieces;
        private final Row strains;
        private final Row paces;
        private int place;

        SheetReader() {
            lengths = new Row(MAX_BUFFER);
            pieces = new Row(MAX_BUFFER);
            strains = new Row(MAX_BUFFER);
            paces = new Row(MAX_BUFFER);
        }

        int scenes() {
            return lengths.size();
        }

        void begin() {
            lengths.clear();
            pieces.clear();
            strains.clear();
            paces.clear();
            beginScene();
        }

        private void beginScene() {
            lengths.add(0);
            pieces.add(NONE);
            strains.add(0);
            paces.add(0);
            place = IN_LENGTH;
        }

        private int latest() {
            return lengths.size() - 1;
        }

        boolean isComplete() {
            switch (place) {
                case IN_LENGTH: return lengths.at(latest()) > 0;
                case BEHIND_STRAINS: return true;
                case IN_PACE: return paces.at(latest()) >= MIN_PACE;
                default: return false;
            }
        }

        /** Reads a character; false if it is a syntax error behind those that were read. */
        boolean read(int code) {
            switch (code) {
                case ',': return readComma();
                case ':': return step(place == IN_LENGTH && isComplete(), AT_PIECE);
                case 'x': return step(place == BEHIND_PIECE, AT_STRAINS);
                case '@': return readAtSign();
                default: return code >= '0' && code <= '9' && readDigit(code - '0');
            }
        }

        private boolean step(boolean allowed, int next) {
            if (allowed) {
                place = next;
            }
            return allowed;
        }

        private boolean readComma() {
            if (!isComplete()) {
                return false;
            }
            beginScene();
            return true;
        }

        private boolean readAtSign() {
            if (place == BEHIND_STRAINS) {
                paces.put(latest(), 0);
            }
            return step(place == BEHIND_STRAINS, IN_PACE);
        }

        private boolean readDigit(int digit) {
            switch (place) {
                case IN_LENGTH:
                    return grow(lengths, digit, 1, MAX_LENGTH);
                case AT_PIECE:
                    pieces.put(latest(), digit);
                    return step(digit < MAX_PIECES, BEHIND_PIECE);
                case AT_STRAINS:
                    strains.put(latest(), digit);
                    paces.put(latest(), USUAL_PACE);
                    return step(digit >= 1, BEHIND_STRAINS);
                case IN_PACE:
                    return grow(paces, digit, MIN_PACE, MAX_PACE);
                default:
                    return false;
            }
        }

        /** Puts a digit behind the latest number of a row, if a number from least to most begins like that. */
        private boolean grow(Row numbers, int digit, int least, int most) {
            int number = 10 * numbers.at(latest()) + digit;
            if (number == 0) {
                return false;
            }
            for (int scale = 1; scale <= 100; scale *= 10) {
                if (number * scale <= most && number * scale + scale - 1 >= least) {
                    numbers.put(latest(), number);
                    return true;
                }
            }
            return false;
        }
    }
}
