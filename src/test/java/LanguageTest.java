import java.io.IOException;
import java.lang.reflect.Constructor;
import java.lang.reflect.Field;
import java.lang.reflect.Method;
import java.lang.reflect.Modifier;
import java.nio.file.Files;
import java.nio.file.Path;
import java.util.Arrays;
import java.util.Set;
import java.util.TreeSet;
import java.util.regex.Matcher;
import java.util.regex.Pattern;

/** The face of the document, and such rules of LANGUAGE.md as can be seen from outside. */
public final class LanguageTest {
    private static final String SOURCE = "src/main/java/LostQuestions.java";
    private static final String[] FACE = {
        "int row(int,int)", "int lay(int,int,int)", "int at(int,int)", "int tear(int)",
        "int copy(int,int,int,int,int)", "int mean(int)", "int text(int,int)", "int put(int,int,int)",
        "int fault(int)", "int library(int)", "int card(int,int)", "int question(int,int)", "int mark(int,int)",
        "int shelve(int,int)", "int age(int,int)", "int truth(int,int)", "int fits(int)", "int take(int,int)",
        "int bring(int)", "int undo(int)", "int right()", "int keep(int)", "int on(int)", "int match(int)",
        "int wished(int)", "int fullest()", "int may(int)", "int sure(int)", "int test()", "int odds(int,int)",
        "int worlds()", "int never()", "int parts()", "int finds(int)", "int left(int)", "int forged()",
        "int beside(int)", "int habit()", "int order()", "int byAge(int)", "int lots(int,int)", "int asked()",
        "long upper()", "long lower()", "int count(int)", "int finding()", "int findings(int)", "long digest()"};
    private static final String[] CONSTANTS = {"BAD", "FULL", "FINDING", "STATE", "SPENT", "NONE"};
    private static final String[] WORDS_RULED_OUT = {"throw", "throws", "try", "catch", "synchronized", "assert",
        "protected", "volatile", "native", "static\\s*\\{", "->", "::", "\\w*Exact\\b", "System\\.(?!arraycopy)",
        "\\bThread", "Random", "equals", "hashCode", "toString", "package"};

    private final Due due = new Due();

    public static void main(String[] args) throws IOException {
        LanguageTest test = new LanguageTest();
        test.face();
        test.classes();
        test.source();
        test.due.end();
    }

    private static String form(Method method) {
        StringBuilder form = new StringBuilder(method.getReturnType().getSimpleName());
        form.append(' ').append(method.getName()).append('(');
        Class<?>[] types = method.getParameterTypes();
        for (int i = 0; i < types.length; i++) {
            form.append(i == 0 ? "" : ",").append(types[i].getSimpleName());
        }
        return form.append(')').toString();
    }

    private void face() {
        Set<String> open = new TreeSet<>();
        Set<String> names = new TreeSet<>();
        for (Method method : LostQuestions.class.getDeclaredMethods()) {
            if (Modifier.isPublic(method.getModifiers())) {
                open.add(form(method));
                names.add(method.getName());
                due.holds(method + " is no static one", !Modifier.isStatic(method.getModifiers()));
            } else {
                due.holds(method + " is private", Modifier.isPrivate(method.getModifiers()));
            }
        }
        due.holds("the face is the document's: " + open, open.equals(new TreeSet<>(Arrays.asList(FACE))));
        for (Method method : LostQuestions.class.getDeclaredMethods()) {
            due.holds(method + " has a name of its own",
                Modifier.isPublic(method.getModifiers()) || !names.contains(method.getName()));
        }
        Set<String> constants = new TreeSet<>();
        for (Field field : LostQuestions.class.getDeclaredFields()) {
            if (Modifier.isPublic(field.getModifiers())) {
                constants.add(field.getName());
            }
            due.holds(field + " is private", Modifier.isPrivate(field.getModifiers()) || constants.contains(field.getName()));
        }
        due.holds("constants " + constants, constants.equals(new TreeSet<>(Arrays.asList(CONSTANTS))));
        Constructor<?>[] made = LostQuestions.class.getDeclaredConstructors();
        due.is("constructors", made.length, 1);
        due.holds("it is public, without arguments",
            Modifier.isPublic(made[0].getModifiers()) && made[0].getParameterCount() == 0);
        int kind = LostQuestions.class.getModifiers();
        due.holds("the class is public and final", Modifier.isPublic(kind) && Modifier.isFinal(kind));
    }

    private void classes() {
        Class<?>[] inside = LostQuestions.class.getDeclaredClasses();
        due.holds("some twelve classes at most", inside.length <= 12);
        Set<String> names = new TreeSet<>();
        for (Method method : LostQuestions.class.getMethods()) {
            names.add(method.getName());
        }
        dueFields(LostQuestions.class);
        for (Class<?> type : inside) {
            due.holds(type + " is static", Modifier.isStatic(type.getModifiers()));
            due.holds(type + " is not public", !Modifier.isPublic(type.getModifiers()));
            dueFields(type);
            for (Method method : type.getDeclaredMethods()) {
                due.holds(method + " has seven parameters at most", method.getParameterCount() <= 7);
                due.holds(method + " has a name of its own", !names.contains(method.getName()));
            }
        }
    }

    private void dueFields(Class<?> type) {
        int own = 0;
        for (Field field : type.getDeclaredFields()) {
            if (Modifier.isStatic(field.getModifiers())) {
                due.holds(field + " is final", Modifier.isFinal(field.getModifiers()));
            } else {
                own++;
            }
        }
        due.holds(type + " has some twenty fields at most", own <= 20);
    }

    private void source() throws IOException {
        String whole = Files.readString(Path.of(SOURCE));
        String code = whole.replaceAll("(?s)/\\*.*?\\*/", "").replaceAll("//[^\n]*", "");
        for (String word : WORDS_RULED_OUT) {
            String pattern = Character.isLetter(word.charAt(0)) ? "\\b" + word + "\\b" : word;
            due.holds("without " + word, !Pattern.compile(pattern).matcher(code).find());
        }
        Matcher imports = Pattern.compile("import ([^;]+);").matcher(code);
        while (imports.find()) {
            due.holds("import of " + imports.group(1), imports.group(1).equals("java.util.Arrays"));
        }
        due.holds("signs of the file are 1 to 127", whole.chars().allMatch(sign -> sign >= 1 && sign <= 127));
        dueShort(code);
    }

    /** A method ends at the brace that stands under its beginning. */
    private void dueShort(String code) {
        Matcher methods = Pattern.compile("(?m)^( {4}| {8})[^\\s}/][^;\\n]*\\)\\s*\\{\\n(?s:.*?)\\n\\1\\}").matcher(code);
        int seen = 0;
        while (methods.find()) {
            seen++;
            int lines = methods.group().split("\n").length;
            due.holds("some sixty lines at most: " + methods.group().split("\n")[0].trim(), lines <= 60);
        }
        due.holds("methods were seen: " + seen, seen > 100);
    }
}
