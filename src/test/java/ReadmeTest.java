import java.io.IOException;
import java.lang.reflect.Method;
import java.lang.reflect.Modifier;
import java.nio.file.Files;
import java.nio.file.Path;
import java.util.HashMap;
import java.util.List;
import java.util.Map;
import java.util.regex.Matcher;
import java.util.regex.Pattern;
import java.util.stream.Stream;

/** README.md: each line of its examples is called as it stands there, and its table names every test. */
public final class ReadmeTest {
    private static final Path README = Path.of("README.md");
    private static final Path TESTS = Path.of("src/test/java");
    private static final String MAKING = "OffForSecond x = new OffForSecond();";
    private static final Pattern CALL = Pattern.compile("int (\\w+) = x\\.(\\w+)\\((.*?)\\); +// (-?\\d+): .+");
    private static final Due due = new Due();

    private static final Map<String, Integer> known = new HashMap<>();
    private static OffForSecond x = new OffForSecond();

    public static void main(String[] args) throws Exception {
        String readme = Files.readString(README);
        examples(readme);
        table(readme);
        due.end("ReadmeTest");
    }

    private static void examples(String readme) throws ReflectiveOperationException {
        Matcher block = Pattern.compile("(?s)```java\n(.*?)```").matcher(readme);
        int blocks = 0;
        while (block.find()) {
            blocks++;
            for (String line : block.group(1).split("\n")) {
                example(line);
            }
        }
        due.is("README.md has examples", blocks > 0 ? 1 : 0, 1);
    }

    private static void example(String line) throws ReflectiveOperationException {
        if (line.equals(MAKING)) {
            x = new OffForSecond();
            known.clear();
            return;
        }
        Matcher call = CALL.matcher(line);
        if (!call.matches()) {
            due.is("README.md: not a call with its answer: " + line, 0, 1);
            return;
        }
        int answer = called(call.group(2), call.group(3));
        due.is("README.md: " + line, answer, Integer.parseInt(call.group(4)));
        due.is("README.md: a name twice: " + line, known.put(call.group(1), answer) == null ? 0 : 1, 0);
    }

    private static int called(String act, String list) throws ReflectiveOperationException {
        String[] words = list.isEmpty() ? new String[0] : list.split(", ");
        for (Method method : OffForSecond.class.getDeclaredMethods()) {
            if (method.getName().equals(act) && Modifier.isPublic(method.getModifiers())
                    && method.getParameterCount() == words.length) {
                Object[] values = new Object[words.length];
                for (int i = 0; i < words.length; i++) {
                    boolean isLong = method.getParameterTypes()[i] == long.class;
                    values[i] = isLong ? (Object) Long.decode(words[i].replace("L", "")) : (Object) number(words[i]);
                }
                return (int) method.invoke(x, values);
            }
        }
        throw new IllegalStateException("README.md: no such act " + act + "(" + list + ")");
    }

    private static Integer number(String word) {
        return known.containsKey(word) ? known.get(word) : Integer.decode(word);
    }

    private static void table(String readme) throws IOException {
        List<Path> tests;
        try (Stream<Path> files = Files.list(TESTS)) {
            tests = files.filter(file -> file.toString().endsWith("Test.java")).toList();
        }
        for (Path test : tests) {
            String name = test.getFileName().toString().replace(".java", "");
            boolean isNamed = Pattern.compile("(?m)^\\|.*\\b" + name + "\\b.*\\|$").matcher(readme).find();
            due.is("README.md: its table names " + name, isNamed ? 1 : 0, 1);
        }
    }
}
