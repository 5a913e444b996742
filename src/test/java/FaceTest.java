import java.io.IOException;
import java.lang.reflect.Constructor;
import java.lang.reflect.Field;
import java.lang.reflect.Method;
import java.lang.reflect.Modifier;
import java.nio.file.Files;
import java.nio.file.Path;
import java.util.Arrays;
import java.util.Set;
import java.util.TreeSet;
import java.util.regex.Pattern;

/** The public face, and the rules of LANGUAGE.md that can be seen from outside. */
final class FaceTest {
    private static final String[] FACE = {"town:1", "price:1", "law:1", "work:2", "looker:2", "drift:1", "thinks:3", "day:2",
        "look:2", "comes:2", "bestFigure:1", "always:1", "pays:1", "bestKind:1", "edge:2", "waits:2", "learn:2", "shared:2",
        "nine:2", "buys:4", "rest:3", "cheaper:1", "otherCheaper:0", "byLaw:2", "sum:0", "order:0", "seeded:4", "judge:2",
        "image:0", "restore:0", "count:1", "keep:3", "row:3", "put:3", "element:2", "copy:5", "skill:1", "toss:1"};
    private static final String[] FORBIDDEN = {"->", "::", "\\bcatch \\((Runtime|Arithmetic|IndexOut|Null|ClassCast|Exception|Throwable)",
        "Exact\\(", "\\bfinally\\b", "\\bsynchronized\\b", "\\bassert\\b", "\\bSystem\\.(?!arraycopy)", "\\bRandom\\b", "\\bThread\\b",
        "@\\w", "\\bfloat\\b|\\bdouble\\b", "\\bprotected\\b", "^package\\b"};

    private FaceTest() {
    }

    static void run(String program) throws IOException {
        methods();
        members();
        for (Class<?> inside : LookAtClock.class.getDeclaredClasses()) {
            Due.holds(inside + " is static and not public", Modifier.isStatic(inside.getModifiers())
                && !Modifier.isPublic(inside.getModifiers()) && !Modifier.isProtected(inside.getModifiers()));
        }
        source(Files.readString(Path.of(program)));
    }

    private static void methods() {
        Set<String> due = new TreeSet<>(Arrays.asList(FACE));
        Set<String> names = new TreeSet<>();
        for (String call : FACE) names.add(call.substring(0, call.indexOf(':')));
        Set<String> found = new TreeSet<>();
        for (Method method : LookAtClock.class.getDeclaredMethods()) {
            if (!Modifier.isPublic(method.getModifiers())) {
                Due.holds(method + " is private", Modifier.isPrivate(method.getModifiers()) || method.isSynthetic());
                Due.holds(method + " has a name of its own", !names.contains(method.getName()));
                continue;
            }
            found.add(method.getName() + ":" + method.getParameterCount());
            Class<?> answer = method.getName().equals("element") ? long.class : int.class;
            Due.holds(method + " answers as told", method.getReturnType() == answer);
            for (Class<?> type : method.getParameterTypes()) Due.holds(method + " takes ints", type == int.class);
        }
        Due.holds("the face is the document's: " + found, found.equals(due));
    }

    private static void members() {
        Due.holds("public and final", Modifier.isFinal(LookAtClock.class.getModifiers()));
        Constructor<?>[] made = LookAtClock.class.getDeclaredConstructors();
        Due.holds("one constructor", made.length == 1 && Modifier.isPublic(made[0].getModifiers()));
        for (Field field : LookAtClock.class.getDeclaredFields()) {
            Due.holds(field + " is private", Modifier.isPrivate(field.getModifiers()));
            Due.holds(field + " is final if static",
                !Modifier.isStatic(field.getModifiers()) || Modifier.isFinal(field.getModifiers()));
        }
    }

    private static void source(String text) {
        for (String word : FORBIDDEN) {
            Due.holds("without " + word, !Pattern.compile(word, Pattern.MULTILINE).matcher(text).find());
        }
        for (String line : text.split("\n")) {
            if (line.startsWith("import")) Due.holds(line, line.equals("import java.util.Arrays;"));
        }
        for (int i = 0; i < text.length(); i++) {
            if (text.charAt(i) > 126) Due.holds("signs below 127", false);
        }
    }
}
