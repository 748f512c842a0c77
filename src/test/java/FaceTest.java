import java.lang.reflect.Constructor;
import java.lang.reflect.Field;
import java.lang.reflect.Method;
import java.lang.reflect.Modifier;
import java.util.ArrayList;
import java.util.Arrays;
import java.util.List;
import java.util.TreeSet;

/** The public face of the document, and the rules of LANGUAGE.md on members. */
final class FaceTest {
    private static final String BOUNDS = " throws IndexOutOfBoundsException";
    private static final String ARGUMENT = " IllegalArgumentException";
    private static final String STATE = " IllegalStateException";
    private static final String[] FACE = {
        "int add(3)" + BOUNDS + ARGUMENT,
        "int addMacro(0) throws" + STATE,
        "int addRule(6)" + BOUNDS + ARGUMENT + STATE,
        "int cell(2)" + BOUNDS,
        "int cellByAudit(2)" + BOUNDS,
        "int copyBase(2)" + BOUNDS + STATE,
        "int entries(0)",
        "int entriesOf(1)" + BOUNDS,
        "int grant(5)" + BOUNDS + ARGUMENT + STATE,
        "int granted(2)" + BOUNDS,
        "int lastBy(2)" + BOUNDS + " NoSuchElementException",
        "float macroShare(0) throws ArithmeticException",
        "double meanValue(0) throws ArithmeticException",
        "char reason(3)" + BOUNDS,
        "int record(3)" + BOUNDS + STATE,
        "int rule(2)" + BOUNDS + " NoSuchElementException",
        "int run(3)" + BOUNDS + STATE + " UnsupportedOperationException",
        "int set(3)" + BOUNDS + ARGUMENT,
        "int setRank(2)" + BOUNDS + ARGUMENT,
        "int skipped(0)",
        "int steps(1)" + BOUNDS,
        "int stop(0) throws" + STATE,
        "int takeGrants(1)" + BOUNDS,
        "char textAt(1)" + BOUNDS,
        "int undo(0) throws" + STATE,
        "int writeStep(2)" + BOUNDS,
    };

    private FaceTest() {
    }

    static void theFaceIsThatOfTheDocument() {
        List<String> found = new ArrayList<>();
        for (Method method : MacroSheet.class.getDeclaredMethods()) {
            if (!Modifier.isPrivate(method.getModifiers())) {
                Checks.due(Modifier.PUBLIC, method.getModifiers());
                found.add(told(method));
            }
        }
        Checks.due(new TreeSet<>(Arrays.asList(FACE)), new TreeSet<>(found));
        Checks.due(FACE.length, found.size());
        Checks.due(Modifier.PUBLIC | Modifier.FINAL, MacroSheet.class.getModifiers());
        Constructor<?>[] constructors = MacroSheet.class.getDeclaredConstructors();
        Checks.due(1, constructors.length);
        Checks.due(Modifier.PUBLIC, constructors[0].getModifiers());
        Checks.due(0, constructors[0].getParameterCount());
    }

    static void noPrivateMethodBearsTheNameOfAPublicOne() {
        for (Class<?> type : Checks.ownClasses()) {
            for (Method method : type.getDeclaredMethods()) {
                for (Method open : MacroSheet.class.getMethods()) {
                    Checks.due(false, !method.equals(open)
                            && method.getName().equals(open.getName()));
                }
            }
        }
    }

    static void noFieldIsOpenAndNoStaticFieldChanges() {
        for (Class<?> type : Checks.ownClasses()) {
            for (Field field : type.getDeclaredFields()) {
                int modifiers = field.getModifiers();
                Checks.due(true, Modifier.isPrivate(modifiers));
                Checks.due(true, !Modifier.isStatic(modifiers) || Modifier.isFinal(modifiers));
            }
        }
    }

    private static String told(Method method) {
        StringBuilder told = new StringBuilder();
        told.append(method.getReturnType()).append(' ').append(method.getName());
        told.append('(').append(method.getParameterCount()).append(')');
        for (Class<?> type : method.getParameterTypes()) {
            Checks.due(int.class, type);
        }
        Class<?>[] thrown = method.getExceptionTypes();
        for (int i = 0; i < thrown.length; i++) {
            told.append(i == 0 ? " throws " : " ").append(thrown[i].getSimpleName());
        }
        return told.toString();
    }
}
