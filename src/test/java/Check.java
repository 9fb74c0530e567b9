import java.lang.reflect.InvocationTargetException;
import java.lang.reflect.Method;
import java.util.Arrays;
import java.util.Comparator;

/** Counts the answers that are not as due, and ends a test. */
final class Check {
    private static int wrong = 0;
    /** The name of the test that runs, ahead of what it finds. */
    private static String running = "";

    private Check() {
    }

    static void due(String call, long got, long want) {
        if (got != want) {
            wrong++;
            System.out.println(running + call + " answered " + got + ", due is " + want);
        }
    }

    static void dueText(String what, String got, String want) {
        if (!got.equals(want)) {
            wrong++;
            System.out.println(running + what + " was " + got + ", due is " + want);
        }
    }

    /**
     * Runs every method of a class whose name begins with "promise" and a number; each promise from
     * the first to the last must have one.
     */
    static void promises(Class<?> tests, int first, int last) throws IllegalAccessException {
        Method[] methods = tests.getDeclaredMethods();
        Arrays.sort(methods, Comparator.comparing(Method::getName));
        int[] found = new int[last + 1];
        int count = 0;
        for (Method method : methods) {
            if (method.getName().matches("promise[0-9]+[A-Z].*")) {
                int number = Integer.parseInt(method.getName().replaceAll("promise([0-9]+).*", "$1"));
                due("a promise of " + tests.getName(), number >= first && number <= last ? 0 : number, 0);
                found[Math.min(number, last)]++;
                count++;
                run(method);
            }
        }
        for (int number = first; number <= last; number++) {
            due("a test of promise " + number, found[number] > 0 ? 1 : 0, 1);
        }
        System.out.println(count + " tests of boundaries");
    }

    private static void run(Method method) throws IllegalAccessException {
        running = method.getName() + ": ";
        try {
            method.invoke(null);
        } catch (InvocationTargetException e) {
            wrong++;
            System.out.println(running + "threw " + e.getCause());
        }
        running = "";
    }

    /** That an object answers as another one that was made and used alike, but for refused calls. */
    static void dueUnchanged(ContourSimplifier tried, ContourSimplifier plain) {
        dueText("state", state(tried), state(plain));
        due("next", tried.next(), plain.next());
        due("misfit", tried.misfit(), plain.misfit());
        due("readPicture", tried.readPicture(), plain.readPicture());
        dueText("state after readPicture", state(tried), state(plain));
    }

    static void type(ContourSimplifier s, String text) {
        for (int i = 0; i < text.length(); i++) {
            s.type(text.charAt(i));
        }
    }

    /** Makes an object with the picture of a text, of which no row and no number may be faulty. */
    static ContourSimplifier picture(int width, int height, String text) {
        ContourSimplifier s = new ContourSimplifier();
        due("reset", s.reset(width, height), (long) width * height);
        type(s, text);
        int answer = s.readPicture();
        if (answer < 0) {
            due("readPicture of " + text, answer, 0);
        }
        s.clearText();
        return s;
    }

    static String chain(ContourSimplifier s, int contour) {
        StringBuilder code = new StringBuilder();
        int length = s.chainCode(contour, -1);
        for (int i = 0; i < length; i++) {
            code.append((char) s.chainCode(contour, i));
        }
        return code.toString();
    }

    /** The present vertices of a contour, as "x,y x,y ...". */
    static String polygon(ContourSimplifier s, int contour) {
        StringBuilder points = new StringBuilder();
        for (int v = 0; v < s.contour(contour, 3); v++) {
            if (s.vertex(contour, v, 2) == 1) {
                points.append(points.length() == 0 ? "" : " ");
                points.append(s.vertex(contour, v, 0)).append(',').append(s.vertex(contour, v, 1));
            }
        }
        return points.toString();
    }

    /** All that can be asked of an object without changing it. */
    static String state(ContourSimplifier s) {
        StringBuilder all = new StringBuilder();
        for (int what = 0; what <= 9; what++) {
            all.append(s.count(what)).append(' ');
        }
        for (int y = 0; y < s.count(7); y++) {
            all.append('/');
            for (int x = 0; x < s.count(6); x++) {
                all.append(s.level(x, y));
            }
        }
        for (int c = 0; c < s.count(0); c++) {
            all.append(" | ").append(chain(s, c));
            for (int what = 0; what <= 8; what++) {
                all.append(' ').append(s.contour(c, what));
            }
            all.append(' ').append(polygon(s, c));
            for (int v = 0; v < s.contour(c, 3); v++) {
                all.append(' ').append(s.vertex(c, v, 3)).append(s.vertex(c, v, 4) == 1 ? '+' : '-');
            }
            all.append(' ').append(s.deviation(c, 0)).append('/').append(s.deviation(c, 1));
            all.append(' ').append(s.bySize(c));
        }
        return all.toString();
    }

    static void end() {
        System.out.println(wrong == 0 ? "all answers are as due" : wrong + " are not as due");
        if (wrong != 0) {
            System.exit(1);
        }
    }
}
