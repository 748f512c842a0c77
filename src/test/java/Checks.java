import java.util.Objects;

/** What every test of the project asks with: an answer that is due, or an exception that is due. */
final class Checks {
    /** A call on a sheet. */
    interface Call {
        Object answer();
    }

    private Checks() {
    }

    static void due(Object want, Object got) {
        if (!Objects.equals(want, got)) {
            throw new AssertionError("due is " + want + ", the answer was " + got);
        }
    }

    static void dueThrow(Class<? extends RuntimeException> want, Call call) {
        due("throws." + want.getSimpleName(), outcome(call));
    }

    /** Tells the answer as text, or the exception as throws.Name if the sheet itself threw it. */
    static String outcome(Call call) {
        try {
            return String.valueOf(call.answer());
        } catch (RuntimeException thrown) {
            return "throws." + thrown.getClass().getSimpleName() + thrower(thrown);
        }
    }

    // A throw statement of the class leaves its own frame on top; the machine or the library, from
    // within a call of the library, does not, and neither does it throw these very classes.
    private static String thrower(RuntimeException thrown) {
        StackTraceElement[] trace = thrown.getStackTrace();
        boolean own = trace.length > 0
                && (trace[0].getClassName().startsWith("MacroSheet")
                        || trace[0].getClassName().startsWith("PlainSheet"))
                && thrown.getClass() != ArrayIndexOutOfBoundsException.class
                && thrown.getClass() != NullPointerException.class
                && thrown.getClass() != ClassCastException.class
                && thrown.getClass() != NegativeArraySizeException.class
                && !"/ by zero".equals(thrown.getMessage());
        return own ? "" : " by the machine";
    }

    // ---- what many tests begin with

    static MacroSheet sheetWithMacros(int count) {
        MacroSheet x = new MacroSheet();
        for (int i = 0; i < count; i++) {
            due(i, x.addMacro());
        }
        return x;
    }

    static void grantAll(MacroSheet x, int macro) {
        x.grant(macro, 0, 0, 5, 7);
    }

    static void ruleForAll(MacroSheet x, int macro, int rank) {
        x.addRule(0, 0, 5, 7, macro, rank);
    }

    /** Records one step that adds a number to a cell at a distance, and takes the change back. */
    static void recordAdd(MacroSheet x, int macro, int columns, int rows, int number) {
        x.record(macro, 2, 3);
        if (x.add(2 + columns, 3 + rows, number) > 0) {
            x.undo();
        }
        x.stop();
    }

    static String written(MacroSheet x, int macro, int step) {
        int length = x.writeStep(macro, step);
        StringBuilder text = new StringBuilder();
        for (int i = 0; i < length; i++) {
            text.append(x.textAt(i));
        }
        dueThrow(IndexOutOfBoundsException.class, () -> x.textAt(length));
        return text.toString();
    }

    /** All that can be looked at without a change, in one text. */
    static String looks(MacroSheet x) {
        StringBuilder all = new StringBuilder();
        for (int column = 0; column < 6; column++) {
            for (int row = 0; row < 8; row++) {
                int c = column;
                int r = row;
                all.append(x.cell(c, r)).append(' ').append(x.cellByAudit(c, r)).append(' ')
                        .append(x.granted(c, r)).append(' ')
                        .append(outcome(() -> x.lastBy(c, r))).append(' ')
                        .append(outcome(() -> x.rule(c, r))).append('\n');
            }
        }
        for (int macro = -1; macro < 6; macro++) {
            int m = macro;
            all.append(outcome(() -> x.steps(m))).append(' ')
                    .append(outcome(() -> x.entriesOf(m))).append(' ')
                    .append(outcome(() -> x.reason(m, 2, 3))).append('\n');
        }
        for (int index = 0; index < 12; index++) {
            int i = index;
            all.append(outcome(() -> x.textAt(i))).append(' ');
        }
        return all.append(x.entries()).append(' ').append(x.skipped()).append(' ')
                .append(outcome(x::macroShare)).append(' ').append(outcome(x::meanValue))
                .toString();
    }

    /** Asks that the call throws and that nothing that can be looked at is another one behind. */
    static void dueThrowAndNothingElse(MacroSheet x, Class<? extends RuntimeException> want,
            Call call) {
        String before = looks(x);
        dueThrow(want, call);
        due(before, looks(x));
    }

    /** Asks the call for each cell next to the sheet and far away from it. */
    static void dueNoSuchCell(MacroSheet x, CellCall call) {
        int[][] wrong = {{-1, 0}, {6, 0}, {0, -1}, {0, 8}, {7, 5}, {-1, 8},
            {Integer.MIN_VALUE, 0}, {Integer.MAX_VALUE, 0},
            {0, Integer.MIN_VALUE}, {0, Integer.MAX_VALUE}};
        for (int[] cell : wrong) {
            dueThrowAndNothingElse(x, IndexOutOfBoundsException.class,
                    () -> call.answer(cell[0], cell[1]));
        }
    }

    /** Asks the call for numbers that no macro, or no rule, of the sheet has. */
    static void dueNoSuchNumber(MacroSheet x, int count, NumberCall call) {
        int[] wrong = {-1, -2, count, count + 1, 6, Integer.MIN_VALUE, Integer.MAX_VALUE};
        for (int number : wrong) {
            dueThrowAndNothingElse(x, IndexOutOfBoundsException.class, () -> call.answer(number));
        }
    }

    /** A call with a cell. */
    interface CellCall {
        Object answer(int column, int row);
    }

    /** A call with the number of a macro, or of a rule. */
    interface NumberCall {
        Object answer(int number);
    }
}
