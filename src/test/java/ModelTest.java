import java.util.ArrayDeque;
import java.util.ArrayList;
import java.util.Deque;
import java.util.HashMap;
import java.util.List;
import java.util.Map;
import java.util.regex.Matcher;
import java.util.regex.Pattern;

/** Long mixed runs, every answer compared with a slow model that follows the document's words foot by foot. */
public final class ModelTest {
    static final int NONE = -2000001;
    static final Pattern SHEET;

    static {
        String scene = "(?:900|[1-8][0-9][0-9]|[1-9][0-9]?)(?::[0-7]x[1-9](?:@(?:[89][0-9]|1[01][0-9]|120))?)?";
        SHEET = Pattern.compile(scene + "(?:," + scene + ")*");
    }

    static final class Cue {
        int piece;
        int strains;
        int pace;

        Cue(int piece, int strains, int pace) {
            this.piece = piece;
            this.strains = strains;
            this.pace = pace;
        }
    }

    static final class Scene {
        int length;
        Cue cue;

        Scene(int length, Cue cue) {
            this.length = length;
            this.cue = cue;
        }
    }

    static final class Film {
        List<Scene> scenes = new ArrayList<>();
        int[] speeds = new int[9001];
        int[] splices = new int[9001];

        Film() {
            speeds[0] = 16;
        }

        Film copy() {
            Film f = new Film();
            for (Scene s : scenes) {
                f.scenes.add(new Scene(s.length, s.cue == null ? null : new Cue(s.cue.piece, s.cue.strains, s.cue.pace)));
            }
            f.speeds = speeds.clone();
            f.splices = splices.clone();
            return f;
        }

        static int marks(int[] row) {
            int n = 0;
            for (int v : row) {
                n += v != 0 ? 1 : 0;
            }
            return n;
        }

        int feet() {
            int n = 0;
            for (Scene s : scenes) {
                n += s.length;
            }
            return n;
        }

        boolean lost(int f) {
            for (int s = Math.max(0, f - 60); s <= f; s++) {
                if (splices[s] != 0 && f < s + splices[s]) {
                    return true;
                }
            }
            return false;
        }

        int speed(int f) {
            int g = f;
            while (speeds[g] == 0) {
                g--;
            }
            return speeds[g];
        }

        int first(int scene) {
            int n = 0;
            for (int i = 0; i < scene; i++) {
                n += scenes.get(i).length;
            }
            return n;
        }

        int lostOf(int scene) {
            int n = 0;
            int end = first(scene + 1);
            for (int f = first(scene); f < end; f++) {
                n += lost(f) ? 1 : 0;
            }
            return n;
        }

        int time(int scene, int whole) {
            int n = 0;
            int end = first(scene + 1);
            int speed = speed(first(scene));
            for (int f = first(scene); f < end; f++) {
                speed = speeds[f] != 0 ? speeds[f] : speed;
                n += lost(f) ? 0 : 160 / (whole == 0 ? speed : whole);
            }
            return n;
        }
    }

    static final class Model {
        Film[] films = {new Film(), new Film(), new Film()};
        List<int[]> pieces = new ArrayList<>();
        int tolerance = 20;
        int leeway = 5;
        StringBuilder buffer = new StringBuilder();
        Deque<Model> saved = new ArrayDeque<>();
        /** What times has answered since the last change. */
        Map<Integer, int[][]> known = new HashMap<>();

        Model copy() {
            Model m = new Model();
            for (int i = 0; i < 3; i++) {
                m.films[i] = films[i].copy();
            }
            m.pieces.addAll(pieces);
            m.tolerance = tolerance;
            m.leeway = leeway;
            return m;
        }

        void save() {
            known.clear();
            saved.addLast(copy());
            if (saved.size() > 6) {
                saved.removeFirst();
            }
        }

        void needReel(int r) {
            if (r < 0 || r > 2) {
                throw new IndexOutOfBoundsException();
            }
        }

        void needScene(int r, int s) {
            needReel(r);
            if (s < 0 || s >= films[r].scenes.size()) {
                throw new IndexOutOfBoundsException();
            }
        }

        void needPiece(int p) {
            if (p < 0 || p >= pieces.size()) {
                throw new IndexOutOfBoundsException();
            }
        }

        static void need(boolean good) {
            if (!good) {
                throw new IllegalArgumentException();
            }
        }

        static void may(boolean good) {
            if (!good) {
                throw new IllegalStateException();
            }
        }

        int addScene(int r, int length) {
            needReel(r);
            need(length >= 1 && length <= 900);
            may(films[r].scenes.size() < 10);
            save();
            films[r].scenes.add(new Scene(length, null));
            return films[r].scenes.size() - 1;
        }

        int removeScene(int r, int s) {
            needScene(r, s);
            save();
            films[r].scenes.remove(s);
            return films[r].scenes.size();
        }

        int crank(int r, int foot, int speed) {
            needReel(r);
            need(foot >= 0 && foot <= 9000 && speed >= 10 && speed <= 30);
            may(films[r].speeds[foot] != 0 || Film.marks(films[r].speeds) < 6);
            save();
            films[r].speeds[foot] = speed;
            return Film.marks(films[r].speeds);
        }

        int splice(int r, int foot, int lost) {
            needReel(r);
            need(foot >= 0 && foot <= 9000 && lost >= 0 && lost <= 50);
            may(lost == 0 || films[r].splices[foot] != 0 || Film.marks(films[r].splices) < 6);
            save();
            films[r].splices[foot] = lost;
            return Film.marks(films[r].splices);
        }

        int addPiece(int o, int s, int c) {
            need(o >= 0 && o <= 600 && s >= 10 && s <= 1200 && c >= 0 && c <= 600);
            may(pieces.size() < 8);
            save();
            pieces.add(new int[] {o, s, c});
            return pieces.size() - 1;
        }

        int setCue(int r, int s, int p, int strains, int pace) {
            needScene(r, s);
            if (p != NONE) {
                needPiece(p);
            }
            need(strains >= 1 && strains <= 9 && pace >= 80 && pace <= 120);
            save();
            films[r].scenes.get(s).cue = p == NONE ? null : new Cue(p, strains, pace);
            return property(r, s, 10, 0);
        }

        int fit(int r) {
            needReel(r);
            save();
            int n = 0;
            for (int s = 0; s < films[r].scenes.size(); s++) {
                Cue c = films[r].scenes.get(s).cue;
                if (c != null) {
                    int[] b = best(r, s, c.piece);
                    n += b[0] != c.strains || b[1] != c.pace ? 1 : 0;
                    films[r].scenes.get(s).cue = new Cue(c.piece, b[0], b[1]);
                    known.clear();
                }
            }
            return n;
        }

        int set(int t, int l) {
            need(t >= 0 && t <= 600 && l >= 0 && l <= 20);
            save();
            int before = 100 * tolerance + leeway;
            tolerance = t;
            leeway = l;
            return before;
        }

        int append(int code) {
            need(code >= 33 && code <= 126);
            may(buffer.length() < 60);
            buffer.append((char) code);
            return buffer.length();
        }

        int clearBuffer() {
            int n = buffer.length();
            buffer.setLength(0);
            return n;
        }

        int firstError() {
            for (int i = 0; i < buffer.length(); i++) {
                Matcher m = SHEET.matcher(buffer.substring(0, i + 1));
                if (!m.matches() && !m.hitEnd()) {
                    return i;
                }
            }
            return buffer.length();
        }

        int load(int r) {
            needReel(r);
            need(SHEET.matcher(buffer).matches());
            String[] parts = buffer.toString().split(",");
            may(films[r].scenes.size() + parts.length <= 10);
            for (String part : parts) {
                may(part.indexOf(':') < 0 || part.charAt(part.indexOf(':') + 1) - '0' < pieces.size());
            }
            save();
            for (String part : parts) {
                String[] sides = part.split("[:x@]");
                Cue cue = sides.length == 1 ? null : new Cue(Integer.parseInt(sides[1]), Integer.parseInt(sides[2]),
                        sides.length == 3 ? 100 : Integer.parseInt(sides[3]));
                films[r].scenes.add(new Scene(Integer.parseInt(sides[0]), cue));
            }
            buffer.setLength(0);
            return films[r].scenes.size();
        }

        int undo() {
            may(!saved.isEmpty());
            known.clear();
            Model m = saved.removeLast();
            films = m.films;
            pieces = m.pieces;
            tolerance = m.tolerance;
            leeway = m.leeway;
            return saved.size();
        }

        int playTime(Cue c) {
            int[] p = pieces.get(c.piece);
            return (p[0] + c.strains * p[1] + p[2]) * 100 / c.pace;
        }

        /** For each scene: begin, end, where a cue would begin, where its cue ends. */
        int[][] times(int r, int whole) {
            return known.computeIfAbsent(100 * r + whole, key -> timesAnew(r, whole));
        }

        int[][] timesAnew(int r, int whole) {
            Film f = films[r];
            int[][] t = new int[f.scenes.size()][4];
            int clock = 0;
            int music = 0;
            for (int i = 0; i < t.length; i++) {
                t[i][0] = clock;
                clock += f.time(i, whole);
                t[i][1] = clock;
                t[i][2] = music > t[i][0] ? music : t[i][0];
                if (f.scenes.get(i).cue != null) {
                    music = t[i][2] + playTime(f.scenes.get(i).cue);
                    t[i][3] = music;
                }
            }
            return t;
        }

        int property(int r, int s, int what, int whole) {
            Film f = films[r];
            Cue c = f.scenes.get(s).cue;
            int[] t = times(r, whole)[s];
            switch (what) {
                case 0: return f.scenes.get(s).length;
                case 1: return f.first(s);
                case 2: return f.lostOf(s);
                case 3: return t[1] - t[0];
                case 4: return t[0];
                case 5: return c == null ? NONE : c.piece;
                case 6: return c == null ? 0 : c.strains;
                case 7: return c == null ? 0 : c.pace;
                case 8: return c == null ? 0 : t[2];
                case 9: return c == null ? 0 : t[3];
                case 10: return c == null ? 0 : t[3] - t[1];
                default: return c == null ? 0 : Math.abs(t[3] - t[1]) > tolerance ? 1 : 0;
            }
        }

        int scene(int r, int s, int what) {
            needScene(r, s);
            need(what >= 0 && what <= 11);
            return property(r, s, what, 0);
        }

        int sum(int r, int what, int whole) {
            int n = 0;
            for (int s = 0; s < films[r].scenes.size(); s++) {
                n += Math.abs(property(r, s, what, whole));
            }
            return n;
        }

        int reel(int r, int what) {
            needReel(r);
            need(what >= 0 && what <= 10);
            Film f = films[r];
            switch (what) {
                case 0: return f.scenes.size();
                case 1: return f.feet();
                case 2: return sum(r, 2, 0);
                case 3: return sum(r, 3, 0);
                case 4: return Film.marks(f.speeds);
                case 5: return Film.marks(f.splices);
                case 6:
                    int n = 0;
                    for (Scene s : f.scenes) {
                        n += s.cue != null ? 1 : 0;
                    }
                    return n;
                case 7: return sum(r, 11, 0);
                case 8: return sum(r, 10, 0);
                case 9: return silence(r);
                default:
                    int end = 0;
                    for (int[] t : times(r, 0)) {
                        end = t[3] > end ? t[3] : end;
                    }
                    return end;
            }
        }

        int silence(int r) {
            int total = sum(r, 3, 0);
            boolean[] plays = new boolean[total];
            int[][] times = times(r, 0);
            for (int s = 0; s < times.length; s++) {
                if (films[r].scenes.get(s).cue != null) {
                    for (int t = times[s][2]; t < times[s][3] && t < total; t++) {
                        plays[t] = true;
                    }
                }
            }
            int n = 0;
            for (boolean p : plays) {
                n += p ? 0 : 1;
            }
            return n;
        }

        int speedAt(int r, int foot) {
            needReel(r);
            need(foot >= 0 && foot <= 9000);
            return films[r].speed(foot);
        }

        int piece(int p, int what) {
            needPiece(p);
            need(what >= 0 && what <= 3);
            if (what < 3) {
                return pieces.get(p)[what];
            }
            int n = 0;
            for (Film f : films) {
                for (Scene s : f.scenes) {
                    n += s.cue != null && s.cue.piece == p ? 1 : 0;
                }
            }
            return n;
        }

        int count(int what) {
            need(what >= 0 && what <= 7);
            switch (what) {
                case 0: return reel(0, 0) + reel(1, 0) + reel(2, 0);
                case 1: return pieces.size();
                case 2: return reel(0, 6) + reel(1, 6) + reel(2, 6);
                case 3: return reel(0, 7) + reel(1, 7) + reel(2, 7);
                case 4: return tolerance;
                case 5: return leeway;
                case 6: return reel(0, 3) + reel(1, 3) + reel(2, 3);
                default: return saved.size();
            }
        }

        int[] best(int r, int s, int p) {
            int[] t = times(r, 0)[s];
            return bestBetween(p, t[2], t[1]);
        }

        int[] bestBetween(int p, int begin, int end) {
            int[] best = null;
            for (int n = 1; n <= 9; n++) {
                for (int pace = 100 - leeway; pace <= 100 + leeway; pace++) {
                    int size = Math.abs(begin + playTime(new Cue(p, n, pace)) - end);
                    int[] key = {n, pace, size};
                    if (best == null || before(key, best)) {
                        best = key;
                    }
                }
            }
            return best;
        }

        static boolean before(int[] a, int[] b) {
            if (a[2] != b[2]) {
                return a[2] < b[2];
            }
            int da = Math.abs(a[1] - 100);
            int db = Math.abs(b[1] - 100);
            if (da != db) {
                return da < db;
            }
            return a[0] != b[0] ? a[0] < b[0] : a[1] < b[1];
        }

        int bestCue(int r, int s, int p) {
            needScene(r, s);
            needPiece(p);
            int[] b = best(r, s, p);
            return 1000 * b[0] + b[1];
        }

        int bestPiece(int r, int s) {
            needScene(r, s);
            int answer = NONE;
            int size = 0;
            for (int p = 0; p < pieces.size(); p++) {
                int[] b = best(r, s, p);
                if (answer == NONE || b[2] < size) {
                    answer = p;
                    size = b[2];
                }
            }
            return answer;
        }

        int ifCranked(int r, int speed) {
            needReel(r);
            need(speed >= 10 && speed <= 30);
            return sum(r, 11, speed);
        }

        int bestSpeed(int r) {
            needReel(r);
            int answer = 0;
            int least = Integer.MAX_VALUE;
            for (int speed = 30; speed >= 10; speed--) {
                int[][] times = times(r, speed);
                int sum = 0;
                for (int s = 0; s < times.length; s++) {
                    sum += films[r].scenes.get(s).cue == null ? 0 : Math.abs(times[s][3] - times[s][1]);
                }
                if (sum <= least) {
                    least = sum;
                    answer = speed;
                }
            }
            return answer;
        }

        float offShare(int r) {
            needReel(r);
            return reel(r, 3) == 0 ? 0.0f : (float) reel(r, 8) / (float) reel(r, 3);
        }

        double meanSpeed(int r) {
            needReel(r);
            return reel(r, 3) == 0 ? 0.0 : (double) ((reel(r, 1) - reel(r, 2)) * 16) / ((double) reel(r, 3) / 10.0);
        }

        long digest() {
            List<Long> list = new ArrayList<>();
            for (int w = 0; w < 8; w++) {
                list.add((long) count(w));
            }
            for (int p = 0; p < pieces.size(); p++) {
                for (int w = 0; w < 4; w++) {
                    list.add((long) piece(p, w));
                }
            }
            for (int r = 0; r < 3; r++) {
                for (int w = 0; w < 11; w++) {
                    list.add((long) reel(r, w));
                }
                for (int s = 0; s < films[r].scenes.size(); s++) {
                    for (int w = 0; w < 12; w++) {
                        list.add((long) scene(r, s, w));
                    }
                    list.add((long) bestPiece(r, s));
                }
                for (int f = 0; f < 1000; f += 100) {
                    list.add((long) speedAt(r, f));
                }
                list.add((long) bestSpeed(r));
                list.add((long) Float.floatToIntBits(offShare(r)));
                list.add(Double.doubleToLongBits(meanSpeed(r)));
            }
            list.add((long) buffer.length());
            for (int i = 0; i < buffer.length(); i++) {
                list.add((long) buffer.charAt(i));
            }
            long hash = 2237;
            for (long v : list) {
                hash = 31 * hash + v;
            }
            return hash;
        }
    }

    static long seed;
    static int wrong = 0;

    static int below(int n) {
        seed = seed * 6364136223846793005L + 1442695040888963407L;
        return (int) ((seed >>> 33) % n);
    }

    static int from(int least, int most) {
        return least + below(most - least + 1);
    }

    /** Mostly from the range, often its edges, now and then just outside or far away. */
    static int near(int least, int most) {
        switch (below(24)) {
            case 0: return least;
            case 1: return most;
            case 2: return below(4) == 0 ? least - 1 : least;
            case 3: return below(4) == 0 ? most + 1 : most;
            case 4: return below(8) == 0 ? Integer.MIN_VALUE : from(least, most);
            case 5: return below(8) == 0 ? Integer.MAX_VALUE : from(least, most);
            case 6: return below(8) == 0 ? NONE : from(least, most);
            default: return from(least, most);
        }
    }

    static String text() {
        StringBuilder b = new StringBuilder();
        int scenes = from(1, below(3) == 0 ? 12 : 3);
        for (int i = 0; i < scenes; i++) {
            b.append(i > 0 ? "," : "").append(below(8) == 0 ? from(0, 1000) : from(1, 60));
            if (below(2) == 0) {
                b.append(':').append(below(10) == 0 ? from(0, 9) : from(0, 2)).append('x').append(from(below(20) == 0 ? 0 : 1, 9));
                if (below(2) == 0) {
                    b.append('@').append(below(6) == 0 ? from(0, 130) : from(80, 120));
                }
            }
        }
        if (below(4) == 0) {
            String signs = ",:x@0123456789,:x@!~";
            int at = below(b.length());
            b.setCharAt(at, signs.charAt(below(signs.length())));
        }
        if (below(6) == 0) {
            b.setLength(below(b.length() + 1));
        }
        return b.toString();
    }

    static int reel() {
        return below(40) == 0 ? near(0, 2) : below(6) == 0 ? from(0, 2) : 0;
    }

    static int scenes(Model m, int r) {
        return r < 0 || r > 2 ? 1 : Math.max(1, m.films[r].scenes.size());
    }


    static String outcome(Object o, int[] call) {
        try {
            return Long.toString(o instanceof Model ? onModel((Model) o, call) : onProgram((CueSheets) o, call));
        } catch (IndexOutOfBoundsException e) {
            return e.getClass() == IndexOutOfBoundsException.class ? "index" : e.toString();
        } catch (IllegalArgumentException e) {
            return e.getClass() == IllegalArgumentException.class ? "argument" : e.toString();
        } catch (IllegalStateException e) {
            return e.getClass() == IllegalStateException.class ? "state" : e.toString();
        } catch (RuntimeException e) {
            return e.toString();
        }
    }

    static long onModel(Model m, int[] c) {
        switch (c[0]) {
            case 0: return m.addScene(c[1], c[2]);
            case 1: return m.removeScene(c[1], c[2]);
            case 2: return m.crank(c[1], c[2], c[3]);
            case 3: return m.splice(c[1], c[2], c[3]);
            case 4: return m.addPiece(c[1], c[2], c[3]);
            case 5: return m.setCue(c[1], c[2], c[3], c[4], c[5]);
            case 6: return m.fit(c[1]);
            case 7: return m.set(c[1], c[2]);
            case 8: return m.append(c[1]);
            case 9: return m.clearBuffer();
            case 10: return m.firstError();
            case 11: return m.load(c[1]);
            case 12: return m.undo();
            case 13: return m.scene(c[1], c[2], c[3]);
            case 14: return m.reel(c[1], c[2]);
            case 15: return m.speedAt(c[1], c[2]);
            case 16: return m.piece(c[1], c[2]);
            case 17: return m.count(c[1]);
            case 18: return m.bestCue(c[1], c[2], c[3]);
            case 19: return m.bestPiece(c[1], c[2]);
            case 20: return m.ifCranked(c[1], c[2]);
            case 21: return m.bestSpeed(c[1]);
            case 22: return Float.floatToIntBits(m.offShare(c[1]));
            case 23: return Double.doubleToLongBits(m.meanSpeed(c[1]));
            default: return m.digest();
        }
    }

    static long onProgram(CueSheets x, int[] c) {
        switch (c[0]) {
            case 0: return x.addScene(c[1], c[2]);
            case 1: return x.removeScene(c[1], c[2]);
            case 2: return x.crank(c[1], c[2], c[3]);
            case 3: return x.splice(c[1], c[2], c[3]);
            case 4: return x.addPiece(c[1], c[2], c[3]);
            case 5: return x.setCue(c[1], c[2], c[3], c[4], c[5]);
            case 6: return x.fit(c[1]);
            case 7: return x.set(c[1], c[2]);
            case 8: return x.append(c[1]);
            case 9: return x.clearBuffer();
            case 10: return x.firstError();
            case 11: return x.load(c[1]);
            case 12: return x.undo();
            case 13: return x.scene(c[1], c[2], c[3]);
            case 14: return x.reel(c[1], c[2]);
            case 15: return x.speedAt(c[1], c[2]);
            case 16: return x.piece(c[1], c[2]);
            case 17: return x.count(c[1]);
            case 18: return x.bestCue(c[1], c[2], c[3]);
            case 19: return x.bestPiece(c[1], c[2]);
            case 20: return x.ifCranked(c[1], c[2]);
            case 21: return x.bestSpeed(c[1]);
            case 22: return Float.floatToIntBits(x.offShare(c[1]));
            case 23: return Double.doubleToLongBits(x.meanSpeed(c[1]));
            default: return x.digest();
        }
    }

    static int foot(int reach) {
        return below(10) == 0 ? near(0, 9000) : near(0, reach);
    }

    static int[] draw(Model m, int reach) {
        int r = reel();
        int s = near(0, scenes(m, r) - 1);
        int p = near(0, Math.max(0, m.pieces.size() - 1));
        switch (below(33)) {
            case 0: case 1: case 2: return new int[] {0, r, below(3) == 0 ? near(1, 900) : near(1, Math.max(1, reach / 4))};
            case 3: return new int[] {1, r, s};
            case 4: case 5: return new int[] {2, r, foot(reach), near(10, 30)};
            case 6: case 7: return new int[] {3, r, foot(reach), below(4) == 0 ? 0 : near(0, 50)};
            case 8: case 9: return new int[] {4, near(0, below(2) == 0 ? 600 : 40), near(10, below(2) == 0 ? 1200 : 90), near(0, below(2) == 0 ? 600 : 40)};
            case 10: case 11: case 12: case 13: return new int[] {5, r, s, below(8) == 0 ? NONE : p, near(1, 9), near(80, 120)};
            case 14: return new int[] {6, r};
            case 15: return new int[] {7, near(0, 600), near(0, 20)};
            case 16: return new int[] {8, near(33, 126)};
            case 17: return new int[] {9};
            case 18: return new int[] {10};
            case 19: return new int[] {11, r};
            case 20: return new int[] {12};
            case 21: return new int[] {13, r, s, near(0, 11)};
            case 22: return new int[] {14, r, near(0, 10)};
            case 23: return new int[] {15, r, foot(reach)};
            case 24: return new int[] {16, p, near(0, 3)};
            case 25: return new int[] {17, near(0, 7)};
            case 26: return new int[] {18, r, s, p};
            case 27: return new int[] {19, r, s};
            case 28: return new int[] {20, r, near(10, 30)};
            case 29: return new int[] {21, r};
            case 30: return new int[] {22, r};
            case 31: return new int[] {23, r};
            default: return new int[] {24};
        }
    }

    static void compare(Model m, CueSheets x, int[] call, int run, int step) {
        String due = outcome(m, call);
        String got = outcome(x, call);
        if (!due.equals(got)) {
            wrong++;
            if (wrong < 20) {
                System.out.println("run " + run + " step " + step + " call " + java.util.Arrays.toString(call)
                        + " answered " + got + ", due is " + due + ", buffer " + m.buffer);
            }
        }
    }

    static void run(int run) {
        seed = 1000003L * run + 17;
        Model m = new Model();
        CueSheets x = new CueSheets();
        int reach = new int[] {40, 200, 1200, 9000}[run % 4];
        for (int step = 0; step < 400; step++) {
            if (below(12) == 0) {
                String text = text();
                compare(m, x, new int[] {9}, run, step);
                for (int i = 0; i < text.length(); i++) {
                    compare(m, x, new int[] {8, text.charAt(i)}, run, step);
                }
                compare(m, x, new int[] {10}, run, step);
                compare(m, x, new int[] {11, reel()}, run, step);
            }
            compare(m, x, draw(m, reach), run, step);
            if (step % (reach > 500 ? 40 : 8) == 0) {
                compare(m, x, new int[] {24}, run, step);
            }
        }
    }

    public static void main(String[] args) {
        int runs = args.length > 0 ? Integer.parseInt(args[0]) : 60;
        for (int i = 0; i < runs; i++) {
            run(i);
        }
        System.out.println(wrong == 0 ? "all answers are as the model's" : wrong + " answers are not as the model's");
        if (wrong != 0) {
            System.exit(1);
        }
    }
}
