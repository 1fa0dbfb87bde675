import java.io.IOException;
import java.lang.reflect.InvocationTargetException;
import java.lang.reflect.Method;
import java.lang.reflect.Modifier;
import java.net.URL;
import java.net.URLClassLoader;
import java.nio.file.Files;
import java.nio.file.Path;
import java.util.ArrayList;
import java.util.Comparator;
import java.util.HashMap;
import java.util.List;
import java.util.Map;
import java.util.Set;
import java.util.TreeMap;
import java.util.TreeSet;
import java.util.regex.Matcher;
import java.util.regex.Pattern;
import java.util.stream.Stream;
import javax.tools.JavaCompiler;
import javax.tools.ToolProvider;

/**
 * What README.md shows of the use of the class: its lines of Java are compiled as they stand there, and each call
 * has to answer the number beside it; its tables have to tell what holds.
 */
public final class ReadmeTest {
    private static final Path README = Path.of("README.md");
    private static final String MADE = "ReadmeLines";
    private static final Pattern CALL = Pattern.compile("(x\\.(\\w+)\\(.*\\)); +// (-?\\d+)\\b.*");
    private static final Pattern NEW_OBJECT = Pattern.compile("LostQuestions x = .*;");
    private static final Pattern CONSTANT = Pattern.compile("\\| `([A-Z]+)` +\\| +(-?\\d+) +\\|.*");
    private static final Pattern KIND = Pattern.compile("\\| (\\d) (\\w+) +\\| `(\\w)` +\\| (\\w*) +\\|.*");

    private final Due due = new Due();
    private final List<String> page;
    /** By the number of its line. */
    private final Map<Integer, Long> answers = new TreeMap<>();
    private final Set<String> calls = new TreeSet<>();

    private ReadmeTest(List<String> page) {
        this.page = page;
    }

    public static void main(String[] args) throws IOException {
        ReadmeTest test = new ReadmeTest(Files.readAllLines(README));
        test.lines();
        test.eachCallIsShown();
        test.constants();
        test.kinds();
        test.due.end();
    }

    private void lines() throws IOException {
        String source = source();
        Path folder = Files.createTempDirectory("readme");
        try {
            Path file = folder.resolve(MADE + ".java");
            Files.writeString(file, source);
            JavaCompiler compiler = ToolProvider.getSystemJavaCompiler();
            int failed = compiler.run(null, null, null, "-Xlint:all", "-Werror", "-cp",
                System.getProperty("java.class.path"), "-d", folder.toString(), file.toString());
            due.is("compiling what README.md shows", failed, 0);
            if (failed == 0) {
                compare(run(folder));
            }
        } finally {
            remove(folder);
        }
    }

    /** A block that begins with 'static' is a method of its own; each other one is run behind those ahead of it. */
    private String source() {
        StringBuilder methods = new StringBuilder();
        StringBuilder runs = new StringBuilder();
        for (int i = 0; i < page.size(); i++) {
            if (page.get(i).equals("```java")) {
                int end = i + 1;
                while (end < page.size() && !page.get(end).equals("```")) {
                    end++;
                }
                List<String> block = page.subList(i + 1, end);
                if (block.isEmpty() || !block.get(0).startsWith("static ")) {
                    String name = "block" + i;
                    runs.append(name).append("(got);\n");
                    methods.append("private static void ").append(name).append("(java.util.List<long[]> got) {\n");
                    methods.append(body(block, i + 2)).append("}\n");
                } else {
                    methods.append("private ").append(String.join("\n", block)).append('\n');
                }
                i = end;
            }
        }
        return "public final class " + MADE + " {\npublic static void run(java.util.List<long[]> got) {\n" + runs + "}\n"
            + methods + "}\n";
    }

    private String body(List<String> block, int firstNumber) {
        StringBuilder body = new StringBuilder();
        for (int i = 0; i < block.size(); i++) {
            int number = firstNumber + i;
            Matcher call = CALL.matcher(block.get(i));
            if (call.matches()) {
                answers.put(number, Long.valueOf(call.group(3)));
                calls.add(call.group(2));
                body.append("got.add(new long[] {").append(number).append(", ").append(call.group(1)).append("});\n");
            } else {
                due.holds("README.md " + number + " tells an answer: " + block.get(i),
                    NEW_OBJECT.matcher(block.get(i)).matches());
                body.append(block.get(i)).append('\n');
            }
        }
        return body.toString();
    }

    private List<long[]> run(Path folder) throws IOException {
        List<long[]> got = new ArrayList<>();
        String thrown = "";
        try (URLClassLoader loader = new URLClassLoader(new URL[] {folder.toUri().toURL()})) {
            loader.loadClass(MADE).getMethod("run", List.class).invoke(null, got);
        } catch (InvocationTargetException e) {
            thrown = ": " + e.getCause();
        } catch (ReflectiveOperationException e) {
            thrown = ": " + e;
        }
        due.holds("what README.md shows ends" + thrown, thrown.isEmpty());
        return got;
    }

    private void compare(List<long[]> got) {
        due.is("lines of README.md that were run", got.size(), answers.size());
        for (long[] answer : got) {
            int number = (int) answer[0];
            due.is("README.md " + number + ": " + page.get(number - 1), answer[1], answers.get(number));
        }
    }

    private static void remove(Path folder) throws IOException {
        try (Stream<Path> files = Files.walk(folder)) {
            for (Path file : files.sorted(Comparator.reverseOrder()).toList()) {
                Files.delete(file);
            }
        }
    }

    private void eachCallIsShown() {
        for (Method method : LostQuestions.class.getDeclaredMethods()) {
            if (Modifier.isPublic(method.getModifiers())) {
                due.holds("README.md shows " + method.getName(), calls.contains(method.getName()));
            }
        }
    }

    private void constants() {
        int seen = 0;
        for (String line : page) {
            Matcher constant = CONSTANT.matcher(line);
            if (constant.matches()) {
                seen++;
                due.is("README.md of " + constant.group(1), Long.parseLong(constant.group(2)), valueOf(constant.group(1)));
            }
        }
        due.is("constants in README.md", seen, 6);
    }

    private static long valueOf(String constant) {
        try {
            return LostQuestions.class.getField(constant).getInt(null);
        } catch (ReflectiveOperationException e) {
            return Long.MIN_VALUE;
        }
    }

    private void kinds() {
        Map<String, Matcher> kinds = new HashMap<>();
        for (String line : page) {
            Matcher kind = KIND.matcher(line);
            if (kind.matches()) {
                kinds.put(kind.group(2), kind);
            }
        }
        due.is("kinds in README.md", kinds.size(), 6);
        for (Matcher kind : kinds.values()) {
            for (Matcher other : kinds.values()) {
                String library = kind.group(3) + "500 q" + other.group(1) + "091";
                LostQuestions x = new LostQuestions();
                Bench.readIn(x, library);
                due.is("a card that fits, by README.md: " + library, x.fits(0), isA(kinds, kind, other) ? 1 : 0);
                x.card(0, 0);
                due.is("the kind, by README.md: " + library, x.asked(), Long.parseLong(kind.group(1)));
            }
        }
    }

    private static boolean isA(Map<String, Matcher> kinds, Matcher kind, Matcher wanted) {
        Matcher now = kind;
        for (int step = 0; step < 6 && now != null; step++) {
            if (now == wanted) {
                return true;
            }
            now = kinds.get(now.group(4));
        }
        return false;
    }
}
