import java.lang.reflect.Field;
import java.lang.reflect.Method;
import java.lang.reflect.Modifier;
import java.nio.file.Files;
import java.nio.file.Path;
import java.util.ArrayList;
import java.util.HashMap;
import java.util.List;
import java.util.Map;
import java.util.Set;
import java.util.TreeSet;
import java.util.regex.Matcher;
import java.util.regex.Pattern;

/** The rules of ../shared/LANGUAGE.md, so far as a plain look at the source and the class can tell. */
public final class LanguageTest {
    private static final String SOURCE = "src/main/java/OffForSecond.java";
    private static final String[] FACE = {
        "as(int,int)", "become(int,int)", "bestLead(int,int)", "body(int)", "check()", "count(int)", "duel(int,int,int,int)",
        "feed(long,int)", "fits(int,int,int)", "go(int,int)", "image()", "judge(int)", "law(int,int,int,int)", "leadFor(int,int)",
        "leads(int,int)", "loose(int)", "margin(int,int,int)", "move(int,int,int,int,int)", "odds(int,int)", "over(int)",
        "pitch(int,int)", "pitchIs(int,int)", "put(int,int,int)", "restore()", "runner(int,int)", "runnerIs(int,int)", "seed(int)",
        "set(int,int)", "sheet(int,int,int)", "steal(int,int)", "surely(int,int)", "tell(int)", "text(int)", "told(int)",
        "untell(int)", "voice(int,int,int)", "weighs(int,int)", "weightsBy(int)"};
    private static final String[] BARRED = {
        "throw", "throws", "try", "catch", "finally", "synchronized", "assert", "import", "package", "var", "double", "float",
        "equals", "hashCode", "toString", "native", "volatile", "transient", "strictfp", "System\\.(?!arraycopy)", "\\w+Exact",
        "Exception", "Error", "Throwable", "Object", "Thread", "Random", "->", "::", "@"};

    private static int wrong = 0;

    public static void main(String[] args) throws Exception {
        face();
        classes();
        words();
        shapes();
        depths();
        System.out.println("LanguageTest: " + wrong + " rules broken");
        if (wrong != 0) {
            System.exit(1);
        }
    }

    private static void so(boolean fine, String rule) {
        if (!fine) {
            wrong++;
            System.out.println("broken: " + rule);
        }
    }

    private static String signature(Method method) {
        StringBuilder text = new StringBuilder(method.getName()).append('(');
        for (Class<?> type : method.getParameterTypes()) {
            text.append(text.charAt(text.length() - 1) == '(' ? "" : ",").append(type.getName());
        }
        return text.append(')').toString();
    }

    private static void face() {
        Class<?> face = OffForSecond.class;
        so(Modifier.isPublic(face.getModifiers()) && Modifier.isFinal(face.getModifiers()), "1: public and final");
        so(face.getDeclaredConstructors().length == 1 && face.getConstructors().length == 1, "1: one public constructor");
        Set<String> open = new TreeSet<>();
        for (Method method : face.getDeclaredMethods()) {
            if (!Modifier.isPrivate(method.getModifiers())) {
                so(method.getReturnType() == int.class && !Modifier.isStatic(method.getModifiers()), "1: " + method);
                open.add(signature(method));
            }
        }
        so(open.equals(new TreeSet<>(List.of(FACE))), "1: the face is " + open);
        for (Field field : face.getDeclaredFields()) {
            so(Modifier.isPrivate(field.getModifiers()), "1: private field " + field);
        }
    }

    private static List<Class<?>> all() {
        List<Class<?>> all = new ArrayList<>();
        all.add(OffForSecond.class);
        all.addAll(List.of(OffForSecond.class.getDeclaredClasses()));
        return all;
    }

    private static void classes() {
        Set<String> names = new TreeSet<>();
        for (String each : FACE) {
            names.add(each.substring(0, each.indexOf('(')));
        }
        so(all().size() <= 12, "11: some twelve classes");
        for (Class<?> each : all()) {
            so(each == OffForSecond.class || Modifier.isStatic(each.getModifiers()), "2: static " + each);
            so(each.getDeclaredClasses().length == 0 || each == OffForSecond.class, "2: no classes deeper " + each);
            int fields = 0;
            for (Field field : each.getDeclaredFields()) {
                boolean isStatic = Modifier.isStatic(field.getModifiers());
                fields += isStatic ? 0 : 1;
                so(!isStatic || Modifier.isFinal(field.getModifiers()), "5: final " + field);
                so(!isStatic || Set.of("int", "int[]", "char[]").contains(field.getType().getSimpleName()), "5: " + field);
            }
            so(fields <= 20, "11: fields of " + each);
            for (Method method : each.getDeclaredMethods()) {
                so(method.getParameterCount() <= 7, "11: seven parameters " + method);
                boolean own = each == OffForSecond.class && Modifier.isPublic(method.getModifiers());
                so(own || !names.contains(method.getName()), "1: bears a public one's name: " + method);
                so(!method.isSynthetic(), "2: no lambda " + method);
            }
        }
    }

    /** The source without comments, texts and characters. */
    private static String bare() throws Exception {
        String source = Files.readString(Path.of(SOURCE));
        so(source.chars().allMatch(c -> c < 127), "4: signs 1 to 127");
        return source.replaceAll("(?s)/\\*.*?\\*/", "").replaceAll("//[^\n]*", "").replaceAll("'(\\\\.|[^'\\\\])'", "0");
    }

    private static void words() throws Exception {
        String bare = bare();
        for (String word : BARRED) {
            boolean letters = Character.isLetter(word.charAt(0));
            Matcher found = Pattern.compile(letters ? "\\b" + word + (word.endsWith(")") ? "" : "\\b") : word).matcher(bare);
            so(!found.find(), "6, 4: " + word);
        }
        Matcher made = Pattern.compile("\\bnew (\\w+)").matcher(bare);
        while (made.find()) {
            so(Set.of("int", "byte", "Scene", "Reader", "Sheets", "Throat", "Pitches", "Runners", "Text").contains(made.group(1)), "4: " + made.group());
        }
        Matcher used = Pattern.compile("\\b(Math|Integer|Long|Arrays|String|List|ArrayList|StringBuilder)\\.(\\w+)").matcher(bare);
        while (used.find()) {
            so(Set.of("abs", "max", "min", "bitCount").contains(used.group(2)), "4: " + used.group());
        }
    }

    private static void shapes() throws Exception {
        int from = 0;
        String name = "";
        String[] lines = Files.readString(Path.of(SOURCE)).split("\n");
        for (int i = 0; i < lines.length; i++) {
            if (lines[i].matches(" +(public |private |static |final )*[\\w\\[\\]]+ \\w+\\(.*\\) \\{")) {
                from = i;
                name = lines[i].trim();
            }
            if (lines[i].matches("( {4}| {8})\\}") && !name.isEmpty()) {
                so(i - from < 60, "11: sixty lines: " + name);
                name = "";
            }
        }
    }

    /** By names alone: methods of one name count as one. A call back into one that stands open is recursion. */
    private static void depths() throws Exception {
        String bare = bare();
        Map<String, String> bodies = new HashMap<>();
        Matcher head = Pattern.compile("(?m)^ +(?:(?:public|private|static) )*[\\w\\[\\]]+ (\\w+)\\([^)]*\\) \\{$").matcher(bare);
        while (head.find()) {
            bodies.merge(head.group(1), bare.substring(head.end(), endOfBody(bare, head.end())), String::concat);
        }
        for (String each : FACE) {
            String name = each.substring(0, each.indexOf('('));
            int deep = deepest(name, bodies, new ArrayList<>());
            so(deep >= 1 && deep <= 8, "11: eight deep: " + name + " is " + deep);
        }
    }

    private static int endOfBody(String bare, int from) {
        int open = 1;
        int at = from;
        while (open > 0 && at < bare.length()) {
            char c = bare.charAt(at);
            open += c == '{' ? 1 : c == '}' ? -1 : 0;
            at++;
        }
        return at;
    }

    private static int deepest(String name, Map<String, String> bodies, List<String> standing) {
        if (!bodies.containsKey(name) || standing.contains(name)) {
            return 0;
        }
        standing.add(name);
        int below = 0;
        Matcher call = Pattern.compile("\\b(\\w+)\\(").matcher(bodies.get(name));
        while (call.find()) {
            below = Math.max(below, deepest(call.group(1), bodies, standing));
        }
        standing.remove(name);
        return below + 1;
    }
}
