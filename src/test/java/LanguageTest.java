import java.io.IOException;
import java.lang.reflect.Field;
import java.lang.reflect.Method;
import java.lang.reflect.Modifier;
import java.nio.charset.StandardCharsets;
import java.nio.file.Files;
import java.nio.file.Paths;
import java.util.Arrays;
import java.util.HashSet;
import java.util.List;
import java.util.Set;
import java.util.regex.Matcher;
import java.util.regex.Pattern;

/**
 * The rules of LANGUAGE.md, as far as the text of the class and its members can tell; rule 1 is FaceTest's. Some are held
 * more strictly than they are written (no try, no switch with arrows), since the class needs no more.
 */
public final class LanguageTest extends Sentences {
    private static final String FILE = "src/main/java/MudSweepers.java";
    private static final List<String> NAMES = Arrays.asList("MudSweepers", "City", "String", "StringBuilder", "Integer",
        "Long", "Math", "List", "ArrayList", "Iterator", "Iterable", "Comparable", "System", "Arrays",
        "IllegalStateException", "IllegalArgumentException", "IndexOutOfBoundsException", "ArithmeticException",
        "UnsupportedOperationException", "NoSuchElementException", "RuntimeException");
    private static final String MADE_ONCE = "\\s*throw new .*| {8}private final .*| {8}(city|trial|leastMud) = new .*";
    private static String text = "";
    private static String code = "";

    public static void main(String[] args) throws IOException {
        text = new String(Files.readAllBytes(Paths.get(FILE)), StandardCharsets.ISO_8859_1);
        code = text.replaceAll("(?s)/\\*.*?\\*/", " ").replaceAll("//[^\n]*", " ").replaceAll("\"[^\"\n]*\"", "\"\"");
        holds("Rule 2 and 10: no lambda, no method reference, no import, no package line",
            () -> none("->|::|\\b(import|package)\\b"));
        holds("Rule 3: texts hold signs 1 to 127 alone", () -> {
            for (char sign : text.toCharArray()) {
                due("a sign of the file within 1 to 127", sign >= 1 && sign <= 127 ? 1 : 0, 1);
            }
        });
        holds("Rule 3: the types of the fields", LanguageTest::typesOfFields);
        holds("Rule 4 and 13: no name of the library but what is listed", LanguageTest::namesOfTheLibrary);
        holds("Rule 5: static fields are final constants, no static block", LanguageTest::staticFields);
        holds("Rule 6: each throw makes one of the listed exceptions with a written text, and nothing is caught", () -> {
            none("\\bthrow\\b(?! new (IndexOutOfBounds|IllegalArgument|IllegalState)Exception\\(\"\"\\);)");
            none("\\b(try|catch|finally|synchronized|assert|equals|hashCode|toString)\\b");
        });
        holds("Rule 9: no loop without a bound", () -> none("while\\s*\\(\\s*true|for\\s*\\([^;)]*;\\s*;"));
        holds("Rule 10: texts are not joined by +", () -> none("\"\"\\s*\\+|\\+\\s*\"\""));
        holds("Rule 11: short methods with seven parameters at most", LanguageTest::methods);
        holds("Rule 11: twelve classes, and twenty fields beside the constants", LanguageTest::sizes);
        holds("Rule 12: rows are made once, by constructors; what a call makes is an exception alone", () -> {
            for (String line : code.split("\n", -1)) {
                if (line.matches(".*\\bnew\\b.*") && !line.matches(MADE_ONCE)) {
                    wrong("made by a call: " + line);
                }
            }
        });
        end();
    }

    private static void none(String pattern) {
        Matcher m = Pattern.compile(pattern).matcher(code);
        while (m.find()) {
            int from = Math.max(0, m.start() - 30);
            wrong("against the rule: .." + code.substring(from, Math.min(code.length(), m.end() + 30)) + "..");
        }
    }

    private static List<Class<?>> classes() {
        Class<?>[] inside = MudSweepers.class.getDeclaredClasses();
        Class<?>[] all = Arrays.copyOf(inside, inside.length + 1);
        all[inside.length] = MudSweepers.class;
        return Arrays.asList(all);
    }

    private static void typesOfFields() {
        Set<Class<?>> allowed = new HashSet<>(classes());
        allowed.addAll(Arrays.asList(int.class, long.class, boolean.class, double.class, int[].class, int[][].class));
        for (Class<?> c : classes()) {
            for (Field f : c.getDeclaredFields()) {
                due("the type of " + f + " is allowed", allowed.contains(f.getType()) ? 1 : 0, 1);
            }
        }
    }

    private static void namesOfTheLibrary() {
        Matcher m = Pattern.compile("\\b[A-Z]\\w*[a-z]\\w*\\b").matcher(code);
        while (m.find()) {
            if (!NAMES.contains(m.group())) {
                wrong("the name " + m.group() + " is not listed");
            }
        }
        none("\\bSystem\\.(?!arraycopy\\()");
        none("\\bMath\\.(?!(min|max|abs|floorDiv|floorMod)\\()");
        none("\\b(java|javax)\\.");
    }

    private static void staticFields() {
        none("static\\s*\\{");
        for (Class<?> c : classes()) {
            for (Field f : c.getDeclaredFields()) {
                if (Modifier.isStatic(f.getModifiers())) {
                    boolean good = Modifier.isFinal(f.getModifiers()) && f.getType().isPrimitive();
                    due(f + " is a constant", good ? 1 : 0, 1);
                }
            }
        }
    }

    private static void methods() {
        for (Class<?> c : classes()) {
            for (Method m : c.getDeclaredMethods()) {
                due(m + " has seven parameters at most", m.getParameterCount() <= 7 ? 1 : 0, 1);
            }
        }
        String[] lines = code.split("\n", -1);
        int began = 0;
        for (int i = 0; i < lines.length; i++) {
            if (lines[i].matches("( {4}| {8})[\\w ]+[\\w\\[\\]]+\\(.*\\{\\s*")) {
                began = i;
            } else if (lines[i].matches("( {4}| {8})\\}\\s*") && i - began > 60) {
                wrong("a method of more than sixty lines ends in line " + (i + 1));
            }
        }
    }

    private static void sizes() {
        due("twelve classes at most", classes().size() <= 12 ? 1 : 0, 1);
        for (Class<?> c : classes()) {
            int fields = 0;
            for (Field f : c.getDeclaredFields()) {
                fields += Modifier.isStatic(f.getModifiers()) ? 0 : 1;
            }
            due("twenty fields at most in " + c, fields <= 20 ? 1 : 0, 1);
        }
        for (Class<?> c : MudSweepers.class.getDeclaredClasses()) {
            int open = c.getModifiers() & (Modifier.PUBLIC | Modifier.PROTECTED);
            due(c + " is static, and private or package-visible", open == 0 && Modifier.isStatic(c.getModifiers()) ? 1 : 0, 1);
        }
    }
}
