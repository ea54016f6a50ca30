import java.io.IOException;
import java.nio.file.Files;
import java.nio.file.Path;
import java.util.ArrayList;
import java.util.List;
import java.util.TreeSet;
import java.util.regex.Matcher;
import java.util.regex.Pattern;

/** Those rules of LANGUAGE.md that can be seen in the text of the class. */
public final class RulesTest {
    private static final Pattern METHOD = Pattern.compile(
            "(?m)^ +((?:public |private |static |final )*)(?:[\\w\\[\\]]+ )(\\w+)\\(([^()]*)\\)[^;{}=]*\\{");
    private static int wrong = 0;

    private static void wrong(String text) {
        wrong++;
        System.out.println(text);
    }

    private static void checkWords(String code) {
        String[] never = {"try", "catch", "finally", "synchronized", "assert", "instanceof", "volatile", "protected", "System",
            "Thread", "Random", "Object", "package", "while (true)", "NaN", "getClass", "hashCode", "toString"};
        for (String word : never) {
            if (Pattern.compile("\\b" + Pattern.quote(word) + "(?!\\w)").matcher(code).find()) {
                wrong("the class uses " + word);
            }
        }
        for (String sign : new String[] {"->", "::", "static {", "Exact(", "@"}) {
            if (code.contains(sign)) {
                wrong("the class uses " + sign);
            }
        }
        for (String line : code.split("\n")) {
            if (line.startsWith("import ") && !line.equals("import java.util.NoSuchElementException;")) {
                wrong("the class has " + line);
            }
            if (line.contains("throw new") && !line.contains("throw new NoSuchElementException();")) {
                wrong("the class has " + line);
            }
            if (line.contains(" static ") && !line.contains("(") && !line.contains(" final ")) {
                wrong("a static field is not final: " + line);
            }
            if (line.length() > 130) {
                wrong("a long line: " + line);
            }
        }
        for (int i = 0; i < code.length(); i++) {
            if (code.charAt(i) > 126) {
                wrong("a sign beyond 126");
            }
        }
    }

    private static int endOf(String code, int open) {
        int depth = 0;
        for (int i = open; i < code.length(); i++) {
            depth += code.charAt(i) == '{' ? 1 : code.charAt(i) == '}' ? -1 : 0;
            if (depth == 0) {
                return i;
            }
        }
        return code.length();
    }

    private static void checkMethods(String code) {
        TreeSet<String> faces = new TreeSet<>();
        List<String> others = new ArrayList<>();
        Matcher m = METHOD.matcher(code);
        while (m.find()) {
            String name = m.group(2);
            if (m.group(1).contains("public")) {
                faces.add(name);
            } else {
                others.add(name);
            }
            int parameters = m.group(3).isBlank() ? 0 : m.group(3).split(",").length;
            String body = code.substring(m.end() - 1, endOf(code, m.end() - 1));
            int lines = body.split("\n").length;
            if (parameters > 7 || lines > 60) {
                wrong(name + " has " + parameters + " parameters and " + lines + " lines");
            }
        }
        if (faces.size() != 45) {
            wrong("the face has " + faces.size() + " names, due are 45");
        }
        for (String name : others) {
            if (faces.contains(name)) {
                wrong("a method that is no face bears the name of one: " + name);
            }
        }
    }

    private static void checkClasses(String code) {
        Matcher m = Pattern.compile("(?m)^ *([a-z ]*)\\bclass (\\w+)").matcher(code);
        int n = 0;
        while (m.find()) {
            n++;
            boolean outer = m.group(2).equals("ReedSheets");
            if (!m.group(1).contains(outer ? "public final" : "private static")) {
                wrong("the class " + m.group(2) + " is not private and static");
            }
        }
        if (n > 12) {
            wrong("there are " + n + " classes");
        }
    }

    public static void main(String[] args) throws IOException {
        String text = Files.readString(Path.of("src/main/java/ReedSheets.java"));
        String code = text.replaceAll("(?s)/\\*.*?\\*/", "").replaceAll("(?m)//.*$", "").replaceAll("\"[^\"\n]*\"", "\"\"");
        checkWords(code);
        checkMethods(code);
        checkClasses(code);
        System.out.println(wrong == 0 ? "the class keeps to the rules that are looked at" : wrong + " rules are broken");
        if (wrong != 0) {
            System.exit(1);
        }
    }
}
