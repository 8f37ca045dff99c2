import java.io.IOException;
import java.lang.reflect.InvocationTargetException;
import java.lang.reflect.Method;
import java.lang.reflect.Modifier;
import java.nio.charset.StandardCharsets;
import java.nio.file.Files;
import java.nio.file.Path;
import java.nio.file.Paths;
import java.util.ArrayList;
import java.util.Arrays;
import java.util.List;
import java.util.Set;
import java.util.TreeSet;
import java.util.regex.Matcher;
import java.util.regex.Pattern;
import java.util.stream.Collectors;
import java.util.stream.Stream;

/** README.md tells how the class is used in the document's words, and its example answers what it says there. */
public final class ReadmeTest extends Sentences {
    private static final Pattern ROW =
        Pattern.compile("city\\.(\\w+)\\(([-\\d, ]*)\\); +// (answers (-?[\\d.]+)|throws (\\w+))(: .*)?");
    private static String readme = "";
    private static String document = "";

    public static void main(String[] args) throws IOException {
        readme = text("README.md");
        document = text("../shared/DOC.md");
        holds("What it is, Terms: what holds for all calls stands in README.md", ReadmeTest::terms);
        String[] promises = between(document, "\n## Promise 1:", "\n## Not promised").split("\n## Promise \\d+: ");
        for (String promise : promises) {
            String told = promise.substring(promise.indexOf('\n')).trim();
            holds("what README.md says of " + promise.split("\n")[0], () -> stands(entry(told)));
        }
        holds("there are 17 promises to look for", () -> due("promises", promises.length, 17));
        holds("the example of README.md answers and throws as it says", ReadmeTest::example);
        holds("each test stands in README.md", ReadmeTest::tests);
        end();
    }

    private static String text(String file) throws IOException {
        return new String(Files.readAllBytes(Paths.get(file)), StandardCharsets.UTF_8);
    }

    private static String between(String whole, String from, String to) {
        int start = whole.indexOf(from);
        int end = whole.indexOf(to, start + 1);
        if (start < 0 || end < 0) {
            throw new IllegalStateException("there is nothing from " + from.trim() + " to " + to.trim());
        }
        return whole.substring(start + from.length(), end);
    }

    private static String inOneLine(String words) {
        return words.replaceAll("\\s+", " ").trim();
    }

    private static void stands(String words) {
        if (!inOneLine(readme).contains(inOneLine(words) + " ")) {
            wrong("not in README.md: " + inOneLine(words));
        }
    }

    private static void terms() {
        stands(between(document, "## What it is\n\nCrossing sweepers of a city.", "## The public face"));
        int looked = 0;
        for (String part : between(document, "## Terms", "## Promise 1").replaceAll("```\\w*", "").split("\n\\s*\n")) {
            if (!part.startsWith("Ahead of")) {
                stands(part);
                looked++;
            }
        }
        due("parts that were looked for", looked, 9);
    }

    /** What is due in README.md for a promise: its call without the exceptions, then its sentences, exceptions last. */
    private static String entry(String told) {
        String call = between(told, "`", "`");
        String rest = told.substring(told.indexOf("`:") + 2);
        StringBuilder due = new StringBuilder("- `").append(call.split(" throws ")[0]).append("`:");
        List<String> takes = new ArrayList<>();
        StringBuilder says = new StringBuilder();
        for (String line : rest.split("\n")) {
            String words = line.trim();
            if (words.startsWith("- `")) {
                takes.add(words.substring(2));
            } else if (words.startsWith("Throws `")) {
                says.append(" - ").append(words);
            } else if (words.startsWith("Returns")) {
                says.append(' ').append(words);
            } else {
                due.append(' ').append(words);
            }
        }
        return due + (takes.isEmpty() ? "" : " " + String.join("; ", takes) + ".") + says;
    }

    private static void example() {
        MudSweepers city = new MudSweepers();
        Set<String> called = new TreeSet<>();
        for (String row : between(readme, "MudSweepers city = new MudSweepers();\n", "```").split("\n")) {
            Matcher m = ROW.matcher(row);
            if (!m.matches()) {
                wrong("not a row of the example: " + row);
                continue;
            }
            called.add(m.group(1));
            String got = outcome(city, m.group(1), m.group(2));
            String want = m.group(4) == null ? m.group(5) : m.group(4);
            if (!got.equals(want)) {
                wrong(row.trim() + " answered " + got);
            }
        }
        Set<String> face = Arrays.stream(MudSweepers.class.getDeclaredMethods()).filter(ReadmeTest::isPublic)
            .map(Method::getName).collect(Collectors.toCollection(TreeSet::new));
        if (!called.equals(face)) {
            wrong("the example calls " + called + ", the face is " + face);
        }
    }

    private static boolean isPublic(Method m) {
        return Modifier.isPublic(m.getModifiers());
    }

    private static String outcome(MudSweepers city, String name, String values) {
        Object[] given = values.isEmpty() ? new Object[0]
            : Stream.of(values.split(", *")).map(Integer::valueOf).toArray();
        Class<?>[] types = new Class<?>[given.length];
        Arrays.fill(types, int.class);
        try {
            return String.valueOf(MudSweepers.class.getMethod(name, types).invoke(city, given));
        } catch (InvocationTargetException e) {
            return e.getCause().getClass().getSimpleName();
        } catch (ReflectiveOperationException e) {
            return "no such call";
        }
    }

    private static void tests() {
        try (Stream<Path> files = Files.list(Paths.get("src/test/java"))) {
            files.forEach(file -> {
                if (!readme.contains("`" + file.toString().replace('\\', '/') + "`")) {
                    wrong(file + " is not named");
                }
            });
        } catch (IOException e) {
            wrong("the tests are not to be listed: " + e);
        }
    }
}
