import java.lang.reflect.InvocationTargetException;
import java.lang.reflect.Method;
import java.util.ArrayList;
import java.util.Comparator;
import java.util.List;

/** Runs the boundary tests: one for each sentence of the document that names a boundary case. */
public final class BoundariesTest {
    static final Class<?>[] GROUPS = {MakingBoundaries.class, BreakingBoundaries.class, ThereBoundaries.class,
        ReadingBoundaries.class, WouldBeBoundaries.class, RefusalBoundaries.class};

    public static void main(String[] args) {
        int failed = 0;
        List<Method> tests = tests();
        for (Method test : tests) {
            String wrong = wrongIn(test);
            if (wrong != null) {
                failed++;
                System.out.println(test.getName() + ": " + wrong + "; it stands for: "
                    + test.getAnnotation(Sentence.class).value());
            }
        }
        System.out.println(tests.size() + " boundary tests, " + failed + " failed");
        if (failed != 0) {
            System.exit(1);
        }
    }

    static List<Method> tests() {
        List<Method> tests = new ArrayList<>();
        for (Class<?> group : GROUPS) {
            for (Method method : group.getDeclaredMethods()) {
                if (method.isAnnotationPresent(Sentence.class)) {
                    tests.add(method);
                }
            }
        }
        tests.sort(Comparator.comparing(Method::getName));
        return tests;
    }

    /** What is wrong by this test, or null if nothing is. */
    static String wrongIn(Method test) {
        try {
            test.setAccessible(true);
            test.invoke(null);
            return null;
        } catch (InvocationTargetException thrown) {
            return String.valueOf(thrown.getCause());
        } catch (IllegalAccessException thrown) {
            return String.valueOf(thrown);
        }
    }
}
