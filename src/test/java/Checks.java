import java.lang.reflect.Modifier;
import java.util.ArrayList;
import java.util.List;
import java.util.Objects;

/** What every test of the project asks with: an answer that is due, or an exception that is due. */
final class Checks {
    /** A call on a sheet. */
    interface Call {
        Object answer();
    }

    private Checks() {
    }

    static void due(Object want, Object got) {
        if (!Objects.equals(want, got)) {
            throw new AssertionError("due is " + want + ", the answer was " + got);
        }
    }

    static void dueThrow(Class<? extends RuntimeException> want, Call call) {
        due("throws." + want.getSimpleName(), outcome(call));
    }

    /** Tells the answer as text, or the exception as throws.Name if the sheet itself threw it. */
    static String outcome(Call call) {
        try {
            return String.valueOf(call.answer());
        } catch (RuntimeException thrown) {
            return "throws." + thrown.getClass().getSimpleName() + thrower(thrown);
        }
    }

    // A throw statement of the class leaves its own frame on top; the machine or the library, from
    // within a call of the library, does not, and neither does it throw these very classes.
    private static String thrower(RuntimeException thrown) {
        StackTraceElement[] trace = thrown.getStackTrace();
        boolean own = trace.length > 0
                && (trace[0].getClassName().startsWith("MacroSheet")
                        || trace[0].getClassName().startsWith("PlainSheet"))
                && thrown.getClass() != ArrayIndexOutOfBoundsException.class
                && thrown.getClass() != NullPointerException.class
                && thrown.getClass() != ClassCastException.class
                && thrown.getClass() != NegativeArraySizeException.class
                && !"/ by zero".equals(thrown.getMessage());
        return own ? "" : " by the machine";
    }

    // ---- what many tests begin with

    /** The class and those inside it, each of them private and static. */
    static List<Class<?>> ownClasses() {
        List<Class<?>> classes = new ArrayList<>();
        classes.add(MacroSheet.class);
        for (Class<?> inside : MacroSheet.class.getDeclaredClasses()) {
            due(true, Modifier.isPrivate(inside.getModifiers()));
            due(true, Modifier.isStatic(inside.getModifiers()));
            classes.add(inside);
        }
        return classes;
    }

    static MacroSheet sheetWithMacros(int count) {
        MacroSheet x = new MacroSheet();
        for (int i = 0; i < count; i++) {
            due(i, x.addMacro());
        }
        return x;
    }

    static void grantAll(MacroSheet x, int macro) {
        x.grant(macro, 0, 0, 5, 7);
    }

    static void ruleForAll(MacroSheet x, int macro, int rank) {
        x.addRule(0, 0, 5, 7, macro, rank);
    }

    /** Records one step that adds a number to a cell at a distance, and takes the change back. */
    static void recordAdd(MacroSheet x, int macro, int columns, int rows, int number) {
        x.record(macro, 2, 3);
        if (x.add(2 + columns, 3 + rows, number) > 0) {
            x.undo();
        }
        x.stop();
    }

    static String written(MacroSheet x, int macro, int step) {
        int length = x.writeStep(macro, step);
        StringBuilder text = new StringBuilder();
        for (int i = 0; i < length; i++) {
            text.append(x.textAt(i));
        }
        dueThrow(IndexOutOfBoundsException.class, () -> x.textAt(length));
        return text.toString();
    }
}
