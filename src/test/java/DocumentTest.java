import java.io.IOException;
import java.lang.reflect.Method;
import java.lang.reflect.Modifier;
import java.nio.file.Files;
import java.nio.file.Path;
import java.util.List;
import java.util.Set;
import java.util.TreeSet;
import java.util.regex.Matcher;
import java.util.regex.Pattern;
import java.util.stream.Stream;

/** The document's own lists: its face is the class's, and each of its promises has tests that quote it. */
public final class DocumentTest {
    private static final Path DOCUMENT = Path.of("../shared/DOC.md");
    private static final Path TESTS = Path.of("src/test/java");
    private static final int PROMISES = 39;
    private static final Due due = new Due();

    public static void main(String[] args) throws IOException {
        String document = Files.readString(DOCUMENT);
        face(document);
        promises(document);
        due.end("DocumentTest");
    }

    private static void face(String document) {
        Set<String> asked = new TreeSet<>();
        Matcher line = Pattern.compile("(?m)^    public (int \\w+\\(.*\\));$").matcher(document);
        while (line.find()) {
            asked.add(line.group(1).replaceAll("(int|long) \\w+(?=[,)])", "$1"));
        }
        Set<String> there = new TreeSet<>();
        for (Method method : OffForSecond.class.getDeclaredMethods()) {
            if (!Modifier.isPrivate(method.getModifiers())) {
                there.add(signature(method));
            }
        }
        due.is("acts in the document's face", asked.size(), PROMISES - 1);
        due.is("the class's face is the document's: " + there + " for " + asked, there.equals(asked) ? 1 : 0, 1);
        due.is("no constants in the document's face", document.contains("public static") ? 1 : 0, 0);
        due.is("no constants in the class's face", OffForSecond.class.getFields().length, 0);
    }

    private static String signature(Method method) {
        StringBuilder text = new StringBuilder(method.getReturnType().getName());
        text.append(' ').append(method.getName()).append('(');
        String between = "";
        for (Class<?> type : method.getParameterTypes()) {
            text.append(between).append(type.getName());
            between = ", ";
        }
        return text.append(')').toString();
    }

    private static void promises(String document) throws IOException {
        String tests = allTests();
        Matcher heading = Pattern.compile("(?m)^## Promise (\\d+): (.+)$").matcher(document);
        int number = 0;
        while (heading.find()) {
            number++;
            due.is("promises are in order", Integer.parseInt(heading.group(1)), number);
            String quoted = "edge(\"" + number + "\", ";
            due.is("a test quotes promise " + number + ", " + heading.group(2), tests.contains(quoted) ? 1 : 0, 1);
            String called = number == 1 ? "new OffForSecond()" : "." + heading.group(2) + "(";
            due.is("a test calls " + called, tests.contains(called) ? 1 : 0, 1);
        }
        due.is("promises", number, PROMISES);
    }

    private static String allTests() throws IOException {
        StringBuilder all = new StringBuilder();
        List<Path> files;
        try (Stream<Path> listed = Files.list(TESTS)) {
            files = listed.filter(file -> file.toString().matches(".*(Edges|Refusals)Test.java")).toList();
        }
        for (Path file : files) {
            all.append(Files.readString(file));
        }
        return all.toString();
    }
}
