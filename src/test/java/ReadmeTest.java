import java.io.IOException;
import java.lang.reflect.InvocationTargetException;
import java.lang.reflect.Method;
import java.lang.reflect.Modifier;
import java.nio.file.DirectoryStream;
import java.nio.file.Files;
import java.nio.file.Path;
import java.util.List;
import java.util.regex.Matcher;
import java.util.regex.Pattern;

/** README.md tells the truth: its examples answer as they say, its settings have the bounds that stand there. */
public final class ReadmeTest {
    private static final Path README = Path.of("README.md");
    private static final Pattern CALL = Pattern.compile("x\\.(\\w+)\\((.*?)\\); +// (throws \\w+|-?\\d+).*");
    private static final Pattern TYPED = Pattern.compile("for \\(char c : \"(.*)\"\\.toCharArray\\(\\)\\) x\\.type\\(c\\);");
    private static final Pattern SETTING = Pattern.compile(
        "\\| `(set\\w+)\\(.*\\)` \\| (\\d+) \\| (\\d+) \\| (\\d+) \\| .*");

    private static Method named(String name) {
        for (Method m : QueueBlame.class.getDeclaredMethods()) {
            if (Modifier.isPublic(m.getModifiers()) && m.getName().equals(name)) return m;
        }
        return null;
    }

    private static String answer(QueueBlame x, String name, Object... arguments) throws IllegalAccessException {
        Method method = named(name);
        if (method == null || method.getParameterCount() != arguments.length) return "no such call";
        try {
            return String.valueOf(method.invoke(x, arguments));
        } catch (InvocationTargetException e) {
            return "throws " + e.getCause().getClass().getSimpleName();
        }
    }

    private static Object[] numbers(String list) {
        if (list.isBlank()) return new Object[0];
        String[] words = list.split(", *");
        Object[] numbers = new Object[words.length];
        for (int k = 0; k < words.length; k++) numbers[k] = Integer.valueOf(words[k]);
        return numbers;
    }

    /** Every line of an example is carried out, or it is a wrong one: none is passed over. */
    private static void examples(List<String> lines) throws IllegalAccessException {
        QueueBlame x = null;
        boolean inside = false;
        int calls = 0;
        for (String line : lines) {
            if (line.startsWith("```")) {
                inside = line.equals("```java");
                continue;
            }
            if (!inside) continue;
            Matcher call = CALL.matcher(line);
            Matcher typed = TYPED.matcher(line);
            if (line.equals("QueueBlame x = new QueueBlame();")) {
                x = new QueueBlame();
            } else if (typed.matches()) {
                Check.write(x, typed.group(1));
            } else if (call.matches()) {
                Check.due(line, answer(x, call.group(1), numbers(call.group(2))), call.group(3));
                calls++;
            } else {
                Check.fail(line, "no call with an answer", "one");
            }
        }
        Check.due("calls with an answer in README.md", calls > 20 ? 1 : 0, 1);
    }

    private static String set(QueueBlame x, String setter, int value) throws IllegalAccessException {
        return setter.equals("setPriority") ? answer(x, setter, 2, value) : answer(x, setter, value);
    }

    private static void settings(List<String> lines) throws IllegalAccessException {
        int setters = 0;
        for (String line : lines) {
            Matcher m = SETTING.matcher(line);
            if (!m.matches()) continue;
            setters++;
            String setter = m.group(1);
            int from = Integer.parseInt(m.group(2));
            int to = Integer.parseInt(m.group(3));
            QueueBlame x = new QueueBlame();
            Check.due(setter + " below", set(x, setter, from - 1), "throws IllegalArgumentException");
            Check.due(setter + " above", set(x, setter, to + 1), "throws IllegalArgumentException");
            Check.due(setter + " at first", set(x, setter, from), m.group(4));
            Check.due(setter + " lowest", set(x, setter, to), m.group(2));
            Check.due(setter + " highest", set(x, setter, from), m.group(3));
        }
        Check.due("setters in README.md", setters, 9);
    }

    private static void names(String text) throws IOException {
        for (Method m : QueueBlame.class.getDeclaredMethods()) {
            if (!Modifier.isPublic(m.getModifiers())) continue;
            Check.due("README.md names " + m.getName(), text.contains("`" + m.getName() + "(") ? 1 : 0, 1);
        }
        try (DirectoryStream<Path> tests = Files.newDirectoryStream(Path.of("src/test/java"), "*Test.java")) {
            for (Path test : tests) {
                String name = test.getFileName().toString().replace(".java", "");
                Check.due("README.md names " + name, text.contains("| " + name + " |") ? 1 : 0, 1);
            }
        }
    }

    public static void main(String[] args) throws Exception {
        List<String> lines = Files.readAllLines(README);
        examples(lines);
        settings(lines);
        names(Files.readString(README));
        Check.end();
    }
}
