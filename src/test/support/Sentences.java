import java.lang.reflect.InvocationTargetException;
import java.lang.reflect.Method;
import java.util.ArrayList;
import java.util.HashMap;
import java.util.List;
import java.util.Map;
import java.util.regex.Matcher;
import java.util.regex.Pattern;

/**
 * Sentences of the document, each one shown by a run of calls on an object of its own. A run is written as texts, with ";"
 * between the calls: "addScene(0, 5) = 0" has an answer, "addScene(3, 5) ! index" is refused, "addScene(0, 5)" only has to
 * be taken, "9 * addScene(0, 5)" stands for nine calls, and "type 5:0x1" appends each character. A refused call must change
 * nothing: the run without it must end in the same state, with the same saved states behind it.
 */
final class Sentences {
    private static final Pattern CALL = Pattern.compile("(?:(\\d+) \\* )?(\\w+)\\(([^)]*)\\)(?: ([=!]) (\\S+))?");
    private static final Map<String, Method> METHODS = new HashMap<>();
    private static final int MOST_CALLS = 512;

    private final List<String> wrong = new ArrayList<>();
    private int shown;

    static {
        for (Method method : CueSheets.class.getMethods()) {
            if (method.getDeclaringClass() == CueSheets.class) {
                METHODS.put(method.getName(), method);
            }
        }
    }

    /** A call, with the answer that is due: a number, "index", "argument" or "state", or null if any number will do. */
    private static final class Call {
        final String name;
        final Object[] arguments;
        final String due;

        Call(String name, Object[] arguments, String due) {
            this.name = name;
            this.arguments = arguments;
            this.due = due;
        }

        boolean isRefused() {
            return "index".equals(due) || "argument".equals(due) || "state".equals(due);
        }

        boolean accepts(String answer) {
            return due != null ? due.equals(answer) : Character.isDigit(answer.charAt(answer.length() - 1));
        }

        String on(CueSheets sheets) {
            try {
                return String.valueOf(METHODS.get(name).invoke(sheets, arguments));
            } catch (InvocationTargetException e) {
                return nameOf(e.getCause());
            } catch (IllegalAccessException e) {
                throw new IllegalStateException(e);
            }
        }

        String text() {
            StringBuilder b = new StringBuilder(name).append('(');
            for (int i = 0; i < arguments.length; i++) {
                b.append(i > 0 ? ", " : "").append(arguments[i]);
            }
            return b.append(')').toString();
        }
    }

    private static String nameOf(Throwable thrown) {
        if (thrown.getClass() == IndexOutOfBoundsException.class) {
            return "index";
        }
        if (thrown.getClass() == IllegalArgumentException.class) {
            return "argument";
        }
        return thrown.getClass() == IllegalStateException.class ? "state" : thrown + "!";
    }

    /** Shows a sentence by one run of calls on a new object. */
    void holds(String sentence, String... rows) {
        shown++;
        List<Call> calls = parse(rows);
        CueSheets plain = new CueSheets();
        for (Call call : calls) {
            compare(sentence, call, call.on(plain));
        }
        CueSheets watched = new CueSheets();
        for (Call call : calls) {
            long before = watched.digest();
            compare(sentence, call, call.on(watched));
            if (call.isRefused() && watched.digest() != before) {
                tell(sentence, call.text() + " is refused, but changes the digest");
            }
        }
        compareEnds(sentence, calls);
    }

    /** The same run of calls ahead of two others leads to the same state, its saved states and the buffer too. */
    void same(String sentence, String before, String one, String other) {
        shown++;
        List<Call> first = parse(before, one);
        List<Call> second = parse(before, other);
        for (boolean widened : new boolean[] {false, true}) {
            String end = end(first, false, widened);
            if (!end.equals(end(second, false, widened))) {
                tell(sentence, one + " and " + other + " lead to different states");
            }
        }
    }

    /** An argument, written "%" in the call, is taken from least to most and refused outside, as due says. */
    void range(String sentence, String before, String call, int least, int most, String due) {
        int[] taken = {least, most};
        for (int value : taken) {
            holds(sentence + ", takes " + value, before, put(call, value));
        }
        int[] refused = {least - 1, most + 1, Integer.MIN_VALUE, Integer.MAX_VALUE};
        for (int value : refused) {
            String behind = put(call, value == most + 1 ? most : least);
            holds(sentence + ", refuses " + value, before, put(call, value) + " ! " + due, behind);
        }
    }

    /** Calls that give the first scenes of reel 0 the same cue. */
    static String cues(int scenes, int piece, int strains, int pace) {
        StringBuilder b = new StringBuilder();
        for (int i = 0; i < scenes; i++) {
            b.append("setCue(0, ").append(i).append(", ").append(piece).append(", ");
            b.append(strains).append(", ").append(pace).append("); ");
        }
        return b.toString();
    }

    /** The hash that promise 26 asks for behind some calls. */
    static long digestOf(String before) {
        CueSheets sheets = new CueSheets();
        StringBuilder buffer = new StringBuilder();
        for (Call call : parse(before)) {
            call.on(sheets);
            if (call.name.equals("append")) {
                buffer.append((char) ((Integer) call.arguments[0]).intValue());
            } else if (call.name.equals("clearBuffer") || call.name.equals("load")) {
                buffer.setLength(0);
            }
        }
        return Digests.of(sheets, buffer.toString());
    }

    private static String put(String call, int value) {
        return call.replace("%", Integer.toString(value));
    }

    /** Prints what is wrong, and ends the program with exit code 1 if anything is. */
    void end() {
        for (String line : wrong) {
            System.out.println(line);
        }
        System.out.println(wrong.isEmpty() ? "all " + shown + " runs are as the document says" : wrong.size() + " faults");
        if (!wrong.isEmpty()) {
            System.exit(1);
        }
    }

    private void compare(String sentence, Call call, String answer) {
        if (!call.accepts(answer)) {
            tell(sentence, call.text() + " answered " + answer + ", due is " + (call.due == null ? "any number" : call.due));
        }
    }

    private void tell(String sentence, String fault) {
        String line = sentence + ": " + fault;
        if (!wrong.contains(line)) {
            wrong.add(line);
        }
    }

    private void compareEnds(String sentence, List<Call> calls) {
        boolean hasRefused = false;
        for (Call call : calls) {
            hasRefused |= call.isRefused();
        }
        for (boolean widened : new boolean[] {false, true}) {
            if (hasRefused && !end(calls, false, widened).equals(end(calls, true, widened))) {
                tell(sentence, "a refused call changes something");
            }
        }
    }

    /** The state behind a run: all saved states in their order, or, widened, the reels filled up with film. */
    private static String end(List<Call> calls, boolean withoutRefused, boolean widened) {
        CueSheets sheets = new CueSheets();
        for (Call call : calls) {
            if (!withoutRefused || !call.isRefused()) {
                call.on(sheets);
            }
        }
        StringBuilder b = new StringBuilder();
        b.append(sheets.digest());
        if (widened) {
            widen(sheets, b);
            return b.toString();
        }
        Call undo = new Call("undo", new Object[0], null);
        for (int i = 0; i < 7; i++) {
            b.append(' ').append(undo.on(sheets)).append(' ').append(sheets.digest());
        }
        return b.toString();
    }

    private static void widen(CueSheets sheets, StringBuilder b) {
        for (int reel = 0; reel < 3; reel++) {
            for (int scenes = sheets.reel(reel, 0); scenes < 10; scenes++) {
                sheets.addScene(reel, 900);
            }
            for (int scene = 0; scene < 10; scene++) {
                b.append(' ').append(sheets.scene(reel, scene, 2)).append(' ').append(sheets.scene(reel, scene, 3));
            }
            b.append(' ').append(sheets.speedAt(reel, 9000));
        }
    }

    private static List<Call> parse(String... rows) {
        List<Call> calls = new ArrayList<>();
        for (String row : rows) {
            for (String part : row.split(";")) {
                String text = part.trim();
                if (text.startsWith("type ")) {
                    addTyping(calls, text.substring(5));
                } else if (!text.isEmpty()) {
                    addCalls(calls, text);
                }
            }
        }
        if (calls.size() > MOST_CALLS) {
            throw new IllegalStateException("more calls than the document promises: " + rows[0]);
        }
        return calls;
    }

    private static void addTyping(List<Call> calls, String signs) {
        for (int i = 0; i < signs.length(); i++) {
            calls.add(new Call("append", new Object[] {(int) signs.charAt(i)}, null));
        }
    }

    private static void addCalls(List<Call> calls, String text) {
        Matcher m = CALL.matcher(text);
        if (!m.matches() || !METHODS.containsKey(m.group(2))) {
            throw new IllegalStateException("not a call: " + text);
        }
        int times = m.group(1) == null ? 1 : Integer.parseInt(m.group(1));
        for (int i = 0; i < times; i++) {
            calls.add(new Call(m.group(2), argumentsOf(m.group(3)), dueOf(m.group(4), m.group(5))));
        }
    }

    private static String dueOf(String sign, String answer) {
        if ("!".equals(sign) != ("index".equals(answer) || "argument".equals(answer) || "state".equals(answer))) {
            throw new IllegalStateException("not an answer: " + answer);
        }
        return "NONE".equals(answer) ? Integer.toString(CueSheets.NONE) : answer;
    }

    private static Object[] argumentsOf(String text) {
        if (text.isEmpty()) {
            return new Object[0];
        }
        String[] parts = text.split(",");
        Object[] arguments = new Object[parts.length];
        for (int i = 0; i < parts.length; i++) {
            String part = parts[i].trim();
            arguments[i] = part.equals("NONE") ? CueSheets.NONE : Integer.parseInt(part);
        }
        return arguments;
    }
}
