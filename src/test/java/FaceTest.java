import java.lang.reflect.Constructor;
import java.lang.reflect.Field;
import java.lang.reflect.Method;
import java.lang.reflect.Modifier;
import java.util.ArrayList;
import java.util.List;
import java.util.TreeSet;

/** The public face of the document, no more and no less, with its throws clauses. */
public final class FaceTest {
    static final String I = "IndexOutOfBoundsException";
    static final String A = "IllegalArgumentException";
    static final String S = "IllegalStateException";
    static final String[] FACE = {
        "int addScene(int,int) " + I + " " + A + " " + S,
        "int removeScene(int,int) " + I,
        "int crank(int,int,int) " + I + " " + A + " " + S,
        "int splice(int,int,int) " + I + " " + A + " " + S,
        "int addPiece(int,int,int) " + A + " " + S,
        "int setCue(int,int,int,int,int) " + I + " " + A,
        "int fit(int) " + I,
        "int set(int,int) " + A,
        "int append(int) " + A + " " + S,
        "int clearBuffer()",
        "int firstError()",
        "int load(int) " + I + " " + A + " " + S,
        "int undo() " + S,
        "int scene(int,int,int) " + I + " " + A,
        "int reel(int,int) " + I + " " + A,
        "int speedAt(int,int) " + I + " " + A,
        "int piece(int,int) " + I + " " + A,
        "int count(int) " + A,
        "int bestCue(int,int,int) " + I,
        "int bestPiece(int,int) " + I,
        "int ifCranked(int,int) " + I + " " + A,
        "int bestSpeed(int) " + I,
        "float offShare(int) " + I,
        "double meanSpeed(int) " + I,
        "long digest()"};

    static String list(Class<?>[] types, String between) {
        StringBuilder b = new StringBuilder();
        for (Class<?> type : types) {
            b.append(b.length() > 0 ? between : "").append(type.getSimpleName());
        }
        return b.toString();
    }

    static void compare(List<String> problems) {
        TreeSet<String> due = new TreeSet<>(List.of(FACE));
        TreeSet<String> names = new TreeSet<>();
        for (String line : FACE) {
            names.add(line.substring(line.indexOf(' ') + 1, line.indexOf('(')));
        }
        for (Method m : CueSheets.class.getDeclaredMethods()) {
            if (Modifier.isPrivate(m.getModifiers()) || m.isSynthetic()) {
                if (names.contains(m.getName())) {
                    problems.add("private method with a public name: " + m.getName());
                }
                continue;
            }
            String line = (m.getReturnType() + " " + m.getName() + "(" + list(m.getParameterTypes(), ",") + ") "
                    + list(m.getExceptionTypes(), " ")).trim();
            if (!Modifier.isPublic(m.getModifiers()) || !due.remove(line)) {
                problems.add("not in the document: " + line);
            }
        }
        for (String line : due) {
            problems.add("missing: " + line);
        }
    }

    static void compareRest(List<String> problems) {
        for (Field f : CueSheets.class.getDeclaredFields()) {
            boolean none = f.getName().equals("NONE");
            if (none != Modifier.isPublic(f.getModifiers()) || !none && !Modifier.isPrivate(f.getModifiers())) {
                problems.add("field " + f);
            }
            if (Modifier.isStatic(f.getModifiers()) && !Modifier.isFinal(f.getModifiers())) {
                problems.add("static field that is not final: " + f);
            }
        }
        Constructor<?>[] made = CueSheets.class.getDeclaredConstructors();
        if (made.length != 1 || made[0].getParameterCount() != 0 || !Modifier.isPublic(made[0].getModifiers())) {
            problems.add("constructors");
        }
        for (Class<?> inner : CueSheets.class.getDeclaredClasses()) {
            if (Modifier.isPublic(inner.getModifiers()) || Modifier.isProtected(inner.getModifiers())) {
                problems.add("class " + inner);
            }
        }
        if (!Modifier.isFinal(CueSheets.class.getModifiers()) || CueSheets.NONE != -2000001) {
            problems.add("class or NONE");
        }
    }

    public static void main(String[] args) {
        List<String> problems = new ArrayList<>();
        compare(problems);
        compareRest(problems);
        for (String problem : problems) {
            System.out.println(problem);
        }
        System.out.println(problems.isEmpty() ? "the face is the document's" : "the face is not the document's");
        if (!problems.isEmpty()) {
            System.exit(1);
        }
    }
}
