import java.lang.reflect.Field;
import java.lang.reflect.Method;
import java.lang.reflect.Modifier;
import java.nio.file.Files;
import java.nio.file.Path;
import java.util.regex.Matcher;
import java.util.regex.Pattern;

/** The program in README.md answers as it says there, and the page leaves out nothing of the face. */
public final class ReadmeTest {
    private static final Pattern CALL = Pattern.compile("s\\.(\\w+)\\((.*?)\\); +// = (-?\\d+|[A-Z_]+)\\b.*");
    private static final Pattern TYPING = Pattern.compile(
            "for \\(char c : \"([^\"]*)\"\\.toCharArray\\(\\)\\) \\{ s\\.type\\(c\\); \\}");

    public static void main(String[] args) throws Exception {
        String page = Files.readString(Path.of("README.md"));
        program(page);
        face(page);
        Check.end();
    }

    private static void program(String page) throws Exception {
        Matcher block = Pattern.compile("(?s)```java\n(.*?)```").matcher(page);
        Check.due("a program on the page", block.find() ? 1 : 0, 1);
        ContourSimplifier s = new ContourSimplifier();
        for (String line : block.group(1).split("\n")) {
            Matcher call = CALL.matcher(line);
            Matcher typing = TYPING.matcher(line);
            if (call.matches()) {
                Check.due(line, answer(s, call.group(1), call.group(2)), number(call.group(3)));
            } else if (typing.matches()) {
                Check.type(s, typing.group(1));
            } else {
                boolean isOther = line.isEmpty() || line.startsWith("// ") || line.startsWith("ContourSimplifier s = ");
                Check.due("a line that is not tested: " + line, isOther ? 0 : 1, 0);
            }
        }
    }

    private static int answer(ContourSimplifier s, String name, String arguments) throws Exception {
        String[] parts = arguments.isEmpty() ? new String[0] : arguments.split(", ");
        Object[] values = new Object[parts.length];
        Class<?>[] types = new Class<?>[parts.length];
        for (int i = 0; i < parts.length; i++) {
            values[i] = Integer.valueOf(parts[i]);
            types[i] = int.class;
        }
        return (Integer) ContourSimplifier.class.getMethod(name, types).invoke(s, values);
    }

    private static int number(String text) throws Exception {
        boolean isName = Character.isLetter(text.charAt(0));
        return isName ? ContourSimplifier.class.getField(text).getInt(null) : Integer.parseInt(text);
    }

    private static void face(String page) {
        for (Method m : ContourSimplifier.class.getDeclaredMethods()) {
            if (Modifier.isPublic(m.getModifiers())) {
                Check.due("the call " + m.getName() + " on the page", page.contains("`" + m.getName() + "`") ? 1 : 0, 1);
            }
        }
        for (Field f : ContourSimplifier.class.getFields()) {
            Check.due("the constant " + f.getName() + " on the page", page.contains("`" + f.getName() + "`") ? 1 : 0, 1);
        }
    }
}
