import java.lang.reflect.Constructor;
import java.lang.reflect.Field;
import java.lang.reflect.Method;
import java.lang.reflect.Modifier;
import java.nio.file.Files;
import java.nio.file.Path;
import java.util.Arrays;
import java.util.Set;
import java.util.TreeSet;
import java.util.regex.Matcher;
import java.util.regex.Pattern;

/** The public face, and the rules of LANGUAGE.md that can be seen in the class and its text. */
public final class FaceTest {
    private static final String[] FACE = {
        "reset(int, int)", "set(int, int, int)", "fill(int, int, int, int, int)", "flood(int, int, int)",
        "level(int, int)", "type(char)", "clearText()", "readPicture()", "trace(int, int)", "count(int)",
        "contour(int, int)", "vertex(int, int, int)", "bySize(int)", "chainCode(int, int)", "next()",
        "remove(int, int)", "insert(int, int)", "simplify(int)", "reduce(int)", "limitFor(int)", "undo()",
        "refine()", "covers(int, int, int)", "isCovered(int, int)", "misfit()", "deviation(int, int)"};
    private static final String[] FORBIDDEN = {
        "\\bthrow\\b", "\\bthrows\\b", "\\btry\\b", "\\bcatch\\b", "\\bsynchronized\\b", "\\bassert\\b", "->", "::",
        "\\bdouble\\b", "\\bfloat\\b", "\\bstatic\\s*\\{", "Exact\\b", "\\bpackage\\b", "\\bObject\\b", "\\bSystem\\.out",
        "@SuppressWarnings", "\\bRandom\\b", "\\bprotected\\b"};

    public static void main(String[] args) throws Exception {
        publicFace();
        constants();
        names();
        text();
        Check.end();
    }

    private static void publicFace() {
        Set<String> found = new TreeSet<>();
        for (Method m : ContourSimplifier.class.getDeclaredMethods()) {
            if (!Modifier.isPrivate(m.getModifiers())) {
                String types = Arrays.toString(Arrays.stream(m.getParameterTypes()).map(Class::getName).toArray());
                found.add(m.getName() + "(" + types.substring(1, types.length() - 1) + ")");
                Check.dueText("answer of " + m.getName(), m.getReturnType().getName(), "int");
                Check.due("public " + m.getName(), Modifier.isPublic(m.getModifiers()) ? 1 : 0, 1);
                Check.due("static " + m.getName(), Modifier.isStatic(m.getModifiers()) ? 1 : 0, 0);
            }
        }
        Check.dueText("methods", found.toString(), new TreeSet<>(Arrays.asList(FACE)).toString());
        Constructor<?>[] constructors = ContourSimplifier.class.getDeclaredConstructors();
        Check.due("constructors", constructors.length, 1);
        Check.due("its parameters", constructors[0].getParameterCount(), 0);
        Check.due("it is public", Modifier.isPublic(constructors[0].getModifiers()) ? 1 : 0, 1);
        int modifiers = ContourSimplifier.class.getModifiers();
        Check.due("public and final", Modifier.isPublic(modifiers) && Modifier.isFinal(modifiers) ? 1 : 0, 1);
        for (Class<?> inner : ContourSimplifier.class.getDeclaredClasses()) {
            Check.due("static " + inner.getName(), Modifier.isStatic(inner.getModifiers()) ? 1 : 0, 1);
            Check.due("public " + inner.getName(), Modifier.isPublic(inner.getModifiers()) ? 1 : 0, 0);
        }
    }

    private static void constants() throws IllegalAccessException {
        Set<String> found = new TreeSet<>();
        for (Field f : ContourSimplifier.class.getDeclaredFields()) {
            if (!Modifier.isPrivate(f.getModifiers())) {
                Check.due("static " + f.getName(), Modifier.isStatic(f.getModifiers()) ? 1 : 0, 1);
                found.add(f.getName() + "=" + f.getInt(null));
            }
            if (Modifier.isStatic(f.getModifiers())) {
                Check.due("final " + f.getName(), Modifier.isFinal(f.getModifiers()) ? 1 : 0, 1);
            }
        }
        Check.dueText("constants", found.toString(), "[BAD_VALUE=-1003, FULL=-1005, NONE=-1006, NOT_POSSIBLE=-1004,"
                + " NO_SUCH_CONTOUR=-1001, NO_SUCH_VERTEX=-1002]");
    }

    /** No method of the classes inside, and no private one, is named as one of the face. */
    private static void names() {
        Set<String> face = new TreeSet<>();
        for (String method : FACE) {
            face.add(method.substring(0, method.indexOf('(')));
        }
        for (Method m : ContourSimplifier.class.getDeclaredMethods()) {
            if (Modifier.isPrivate(m.getModifiers())) {
                Check.due("private " + m.getName(), face.contains(m.getName()) ? 1 : 0, 0);
            }
        }
        for (Class<?> inner : ContourSimplifier.class.getDeclaredClasses()) {
            int fields = 0;
            for (Field f : inner.getDeclaredFields()) {
                fields += Modifier.isStatic(f.getModifiers()) ? 0 : 1;
            }
            Check.due("many fields in " + inner.getName(), fields > 20 ? fields : 0, 0);
            for (Method m : inner.getDeclaredMethods()) {
                Check.due(inner.getName() + " " + m.getName(), face.contains(m.getName()) ? 1 : 0, 0);
                Check.due("many parameters of " + m.getName(), m.getParameterCount() > 7 ? 1 : 0, 0);
            }
        }
        Check.due("many classes", ContourSimplifier.class.getDeclaredClasses().length > 12 ? 1 : 0, 0);
    }

    private static void text() throws Exception {
        String source = Files.readString(Path.of("src/main/java/ContourSimplifier.java"));
        String code = source.replaceAll("(?s)/\\*.*?\\*/", "").replaceAll("//[^\n]*", "");
        for (String forbidden : FORBIDDEN) {
            Matcher matcher = Pattern.compile(forbidden).matcher(code);
            Check.due(forbidden + " in the program", matcher.find() ? 1 : 0, 0);
        }
        Matcher imports = Pattern.compile("import ([^;]*);").matcher(code);
        while (imports.find()) {
            Check.dueText("import", imports.group(1), "java.util.Arrays");
        }
        // no row is made but with the object: 'new' stands only behind the equals sign of a field
        Matcher made = Pattern.compile("(?m)^.*\\bnew\\b.*$").matcher(code);
        while (made.find()) {
            boolean isField = made.group().matches("\\s*(private final .*|this\\.\\w+) = new .*");
            Check.due("made in a call:" + made.group(), isField ? 1 : 0, 1);
        }
    }
}
