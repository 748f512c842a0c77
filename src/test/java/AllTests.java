import java.lang.reflect.InvocationTargetException;
import java.lang.reflect.Method;
import java.lang.reflect.Modifier;
import java.util.Arrays;
import java.util.Comparator;

/** Runs every test of the project: each static method without arguments of the classes below. */
public final class AllTests {
    private static final Class<?>[] TESTS = {FaceTest.class, LanguageTest.class, ReadmeTest.class,
        CellsTest.class, MacrosTest.class, RulesTest.class, AuditTest.class, CellTermsTest.class,
        ActionTermsTest.class, RefusalsTest.class, StaysTest.class, LongRunsTest.class,
        RandomRunsTest.class};

    private static int passed;
    private static int failed;

    private AllTests() {
    }

    public static void main(String[] arguments) throws ReflectiveOperationException {
        for (Class<?> test : TESTS) {
            Method[] methods = test.getDeclaredMethods();
            Arrays.sort(methods, Comparator.comparing(Method::getName));
            for (Method method : methods) {
                if (isTest(method)) {
                    make(method);
                }
            }
        }
        System.out.println(passed + " passed, " + failed + " failed");
        if (failed > 0 || passed == 0) {
            System.exit(1);
        }
    }

    static Class<?>[] tests() {
        return TESTS.clone();
    }

    private static boolean isTest(Method method) {
        return Modifier.isStatic(method.getModifiers())
                && !Modifier.isPrivate(method.getModifiers())
                && !method.isSynthetic() && method.getParameterCount() == 0;
    }

    private static void make(Method method) throws ReflectiveOperationException {
        try {
            method.invoke(null);
            passed++;
        } catch (InvocationTargetException thrown) {
            failed++;
            System.out.println("FAILED " + method.getDeclaringClass().getSimpleName() + "."
                    + method.getName() + ": " + thrown.getCause());
            for (StackTraceElement at : thrown.getCause().getStackTrace()) {
                if (at.getMethodName().equals(method.getName())) {
                    System.out.println("    at " + at);
                }
            }
        }
    }
}
