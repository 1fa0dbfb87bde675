import java.lang.reflect.InvocationTargetException;
import java.lang.reflect.Method;
import java.util.Arrays;
import java.util.Comparator;
import java.util.Set;
import java.util.TreeSet;

/**
 * Each sentence of the document that names an edge, by a test of its own: a method whose name begins with its
 * promise (p00: with 'Terms'). Each is run on a new object, and no promise is without one.
 */
public final class EdgeTest {
    private static final int PROMISES = 49;

    private final Due due = new Due();
    private final Set<String> promises = new TreeSet<>();
    private int tests = 0;

    public static void main(String[] args) {
        EdgeTest test = new EdgeTest();
        test.run(new TermEdges(test.due));
        test.run(new RowEdges(test.due));
        test.run(new LibraryEdges(test.due));
        test.run(new ReaderEdges(test.due));
        test.run(new MatchEdges(test.due));
        test.run(new FindEdges(test.due));
        test.run(new ToldEdges(test.due));
        for (int promise = 0; promise <= PROMISES; promise++) {
            String name = String.format("p%02d", promise);
            test.due.holds("there is an edge of " + name, test.promises.contains(name));
        }
        System.out.println(test.tests + " edges");
        test.due.end();
    }

    private void run(Bench bench) {
        Method[] methods = bench.getClass().getDeclaredMethods();
        Arrays.sort(methods, Comparator.comparing(Method::getName));
        for (Method method : methods) {
            if (method.getName().matches("p\\d\\d_\\w+")) {
                promises.add(method.getName().substring(0, 3));
                tests++;
                run(bench, method);
            }
        }
    }

    private void run(Bench bench, Method method) {
        bench.begin(method.getName());
        String thrown = "";
        try {
            method.invoke(bench);
        } catch (InvocationTargetException e) {
            thrown = ": " + e.getCause();
        } catch (IllegalAccessException e) {
            thrown = ": " + e;
        }
        due.holds(method.getName() + " ends" + thrown, thrown.isEmpty());
        due.holds(method.getName() + " looks at answers", bench.steps() > 0);
    }
}
