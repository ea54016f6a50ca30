import java.io.IOException;
import java.lang.reflect.InvocationTargetException;
import java.lang.reflect.Method;
import java.lang.reflect.Modifier;
import java.nio.file.Files;
import java.nio.file.Path;
import java.util.NoSuchElementException;
import java.util.TreeSet;
import java.util.regex.Matcher;
import java.util.regex.Pattern;

/** What README.md says of the calls is so. */
public final class ReadmeTest {
    private static final Pattern CALL = Pattern.compile("(?m)^x\\.(\\w+)\\(([^)]*)\\); *// (\\w+|-\\d+)");
    private static final Pattern PUT = Pattern.compile("(?m)^put\\(x, \"([^\"]*)\"\\);$");
    private static int asked = 0;
    private static int wrong = 0;

    private static void wrong(String text) {
        wrong++;
        System.out.println(text);
    }

    private static Method faceOf(String name) {
        for (Method m : ReedSheets.class.getDeclaredMethods()) {
            if (m.getName().equals(name) && Modifier.isPublic(m.getModifiers())) {
                return m;
            }
        }
        return null;
    }

    /** All calls of the example have ints alone. */
    private static Object[] numbersIn(String text) {
        String[] parts = text.isBlank() ? new String[0] : text.split(",");
        Object[] numbers = new Object[parts.length];
        for (int i = 0; i < parts.length; i++) {
            numbers[i] = Integer.valueOf(parts[i].trim());
        }
        return numbers;
    }

    private static String answer(ReedSheets x, String name, String arguments) throws IllegalAccessException {
        Method face = faceOf(name);
        if (face == null) {
            return "nothing, as there is no such call";
        }
        try {
            return face.invoke(x, numbersIn(arguments)).toString();
        } catch (InvocationTargetException e) {
            return e.getCause() instanceof NoSuchElementException ? "throws" : e.getCause().toString();
        }
    }

    private static void checkExample(String readme) throws IllegalAccessException {
        ReedSheets x = new ReedSheets();
        for (String line : readme.split("\n")) {
            Matcher call = CALL.matcher(line);
            Matcher put = PUT.matcher(line);
            if (put.matches()) {
                Edges.feed(x, put.group(1));
            } else if (call.find()) {
                asked++;
                String got = answer(x, call.group(1), call.group(2));
                if (!got.equals(call.group(3))) {
                    wrong(line + " .. answered " + got);
                }
            } else if (line.startsWith("x.") || line.startsWith("put(")) {
                wrong("not understood: " + line);
            }
        }
        if (asked == 0) {
            wrong("README.md tells no call");
        }
    }

    private static void checkTable(String readme) {
        TreeSet<String> told = new TreeSet<>();
        for (String line : readme.split("\n")) {
            Matcher name = Pattern.compile("`(\\w+)`").matcher(line.startsWith("|") ? line : "");
            while (name.find()) {
                if (!told.add(name.group(1))) {
                    wrong("told twice: " + name.group(1));
                }
            }
        }
        TreeSet<String> face = new TreeSet<>();
        for (Method m : ReedSheets.class.getDeclaredMethods()) {
            if (Modifier.isPublic(m.getModifiers())) {
                face.add(m.getName());
            }
        }
        if (!told.equals(face)) {
            wrong("the table has " + told + ", due are " + face);
        }
    }

    public static void main(String[] args) throws IOException, IllegalAccessException {
        String readme = Files.readString(Path.of("README.md"));
        checkExample(readme);
        checkTable(readme);
        System.out.println(asked + " calls of README.md, " + wrong + " wrong");
        if (wrong != 0) {
            System.exit(1);
        }
    }
}
