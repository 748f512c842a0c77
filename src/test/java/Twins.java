/**
 * Two sheets that are made by the same calls, of which one gets some calls more that must leave no
 * trace. Each question is asked on a pair of its own, as the questions change the sheets too and no
 * sheet is to be asked more than the 512 calls that the document promises.
 */
final class Twins {
    /** Some calls on a sheet. */
    interface Calls {
        void on(MacroSheet x);
    }

    /** A call on a sheet, or a question that takes several of them. */
    interface Ask {
        Object of(MacroSheet x);
    }

    /** A call on a sheet with a cell. */
    interface CellAsk {
        Object of(MacroSheet x, int column, int row);
    }

    /** A call on a sheet with a number: of a macro or a rule, a value, a rank or an index. */
    interface NumberAsk {
        Object of(MacroSheet x, int number);
    }

    static final int LOWEST = Integer.MIN_VALUE;
    static final int GREATEST = Integer.MAX_VALUE;

    private static final int[][] CORNERS = {{0, 0}, {5, 0}, {0, 7}, {5, 7}};
    private static final int[][] NO_CELLS = {{-1, 0}, {-1, 7}, {6, 0}, {6, 7}, {0, -1}, {5, -1},
        {0, 8}, {5, 8}, {-1, -1}, {6, 8}, {7, 5}, {LOWEST, 0}, {GREATEST, 0}, {0, LOWEST},
        {0, GREATEST}};
    private static final Ask[] QUESTIONS = {Twins::cells, Twins::counts, Twins::reasons,
        Twins::allSteps, Twins::roomLeft, Twins::recording, Twins::undoing};

    private Twins() {
    }

    // ---- sheets to begin with

    /** A sheet without anything. */
    static void fresh(MacroSheet x) {
    }

    /** Three macros, three rules, entries by hand and by macros, one skipped, and a text. */
    static void busy(MacroSheet x) {
        for (int macro = 0; macro < 3; macro++) {
            x.addMacro();
        }
        x.record(0, 2, 3);
        x.set(3, 3, 7);
        x.add(2, 2, -4);
        x.copyBase(2, 4);
        x.stop();
        x.record(1, 0, 0);
        x.add(1, 0, 5);
        x.stop();
        x.record(2, 5, 7);
        x.set(0, 0, 1);
        x.stop();
        x.grant(0, 0, 0, 5, 7);
        x.grant(1, 0, 0, 4, 7);
        x.grant(1, 5, 0, 5, 0);
        x.grant(2, 0, 0, 0, 0);
        x.addRule(0, 0, 0, 7, 1, 4);
        x.addRule(0, 0, 5, 1, 0, 3);
        x.addRule(4, 4, 5, 7, 2, 9);
        x.set(0, 5, 3);
        x.run(0, 3, 5);
        x.set(4, 4, 6);
        x.add(1, 2, 2);
        x.set(1, 6, 1);
        x.undo();
        x.writeStep(0, 1);
    }

    /** The busy sheet, with a recording under way. */
    static void recorded(MacroSheet x) {
        busy(x);
        x.record(2, 1, 3);
        x.set(2, 2, 8);
        x.add(3, 1, 1);
    }

    /** The busy sheet with as many macros, rules and grants as there can be. */
    static void full(MacroSheet x) {
        busy(x);
        for (int i = 3; i < 6; i++) {
            x.addMacro();
            x.addRule(i, i, 5, 7, i, i);
            x.grant(0, i, 1, i, 1);
        }
        for (int i = 0; i < 4; i++) {
            x.grant(5, i, i, i, i);
        }
    }

    /** The full sheet, with a recording of the last macro under way. */
    static void fullAndRecorded(MacroSheet x) {
        full(x);
        x.record(5, 1, 3);
        x.copyBase(2, 2);
    }

    static final Calls[] STARTS = {Twins::fresh, Twins::busy, Twins::recorded, Twins::full,
        Twins::fullAndRecorded};

    // ---- what is asked

    /** Asks that no later call could tell by which of the two a sheet was made. */
    static void dueAlike(Calls one, Calls other) {
        for (Ask question : QUESTIONS) {
            Checks.due(question.of(madeBy(one)), question.of(madeBy(other)));
        }
    }

    /** Asks that the calls behind leave nothing that a later call could tell. */
    static void dueNoTrace(Calls before, Calls behind) {
        dueAlike(before, x -> {
            before.on(x);
            behind.on(x);
        });
    }

    /** Asks that the call throws and that nothing has changed then. */
    static void dueRefused(Class<? extends RuntimeException> want, Calls before, Ask call) {
        dueNoTrace(before, x -> Checks.dueThrow(want, () -> call.of(x)));
    }

    static void dueAnswered(Calls before, Ask call) {
        MacroSheet x = madeBy(before);
        String got = Checks.outcome(() -> call.of(x));
        Checks.due(false, got.startsWith("throws."));
    }

    /** Asks for the corners of the sheet, which are there, and for cells beyond them. */
    static void dueCells(Calls before, CellAsk call) {
        for (int[] corner : CORNERS) {
            dueAnswered(before, x -> call.of(x, corner[0], corner[1]));
        }
        dueNoCells(before, call);
    }

    static void dueNoCells(Calls before, CellAsk call) {
        for (int[] cell : NO_CELLS) {
            dueRefused(IndexOutOfBoundsException.class, before,
                    x -> call.of(x, cell[0], cell[1]));
        }
    }

    /** Asks for the first and the last of the numbers, and for those next to them and far away. */
    static void dueNumbers(Class<? extends RuntimeException> want, Calls before, int first,
            int last, NumberAsk call) {
        if (first <= last) {
            dueAnswered(before, x -> call.of(x, first));
            dueAnswered(before, x -> call.of(x, last));
        }
        for (int number : new int[] {first - 1, last + 1, LOWEST, GREATEST}) {
            dueRefused(want, before, x -> call.of(x, number));
        }
    }

    private static MacroSheet madeBy(Calls calls) {
        MacroSheet x = new MacroSheet();
        calls.on(x);
        return x;
    }

    // ---- the questions, each of some 300 calls at most

    private static String cells(MacroSheet x) {
        StringBuilder told = new StringBuilder();
        for (int column = 0; column < 6; column++) {
            for (int row = 0; row < 8; row++) {
                int c = column;
                int r = row;
                tell(told, () -> x.cell(c, r));
                tell(told, () -> x.cellByAudit(c, r));
                tell(told, () -> x.granted(c, r));
                tell(told, () -> x.lastBy(c, r));
                tell(told, () -> x.rule(c, r));
            }
        }
        return told.toString();
    }

    private static String counts(MacroSheet x) {
        StringBuilder told = new StringBuilder();
        tell(told, x::entries);
        tell(told, x::skipped);
        tell(told, x::macroShare);
        tell(told, x::meanValue);
        for (int macro = -1; macro < 6; macro++) {
            int m = macro;
            tell(told, () -> x.entriesOf(m));
            tell(told, () -> x.steps(m));
        }
        for (int index = 0; index < 12; index++) {
            int i = index;
            tell(told, () -> x.textAt(i));
        }
        return told.toString();
    }

    private static String reasons(MacroSheet x) {
        StringBuilder told = new StringBuilder();
        for (int macro = 0; macro < 6; macro++) {
            for (int place = 0; place < 48; place++) {
                int m = macro;
                int p = place;
                tell(told, () -> x.reason(m, p % 6, p / 6));
            }
        }
        return told.toString();
    }

    private static String allSteps(MacroSheet x) {
        StringBuilder told = new StringBuilder();
        for (int macro = 0; macro < 6; macro++) {
            int m = macro;
            for (int step = 0; step < 10; step++) {
                int s = step;
                String length = Checks.outcome(() -> x.writeStep(m, s));
                told.append(length).append(' ');
                if (length.startsWith("throws.")) {
                    break;
                }
                tell(told, () -> Checks.written(x, m, s));
            }
        }
        return told.toString();
    }

    private static String roomLeft(MacroSheet x) {
        StringBuilder told = new StringBuilder();
        for (int i = 0; i <= 6; i++) {
            int number = i;
            tell(told, () -> x.setRank(number, 0));
            tell(told, () -> x.takeGrants(number));
        }
        for (int i = 0; i <= 6; i++) {
            tell(told, x::addMacro);
            tell(told, () -> x.addRule(0, 0, 0, 0, 0, 0));
        }
        return told.toString();
    }

    private static String recording(MacroSheet x) {
        StringBuilder told = new StringBuilder();
        tell(told, () -> x.copyBase(4, 6));
        tell(told, () -> x.cell(4, 6));
        tell(told, () -> x.add(5, 6, 1));
        tell(told, x::stop);
        return told.append(allSteps(x)).toString();
    }

    private static String undoing(MacroSheet x) {
        StringBuilder told = new StringBuilder();
        for (int i = 0; i <= 8; i++) {
            tell(told, x::undo);
            tell(told, x::entries);
            tell(told, x::skipped);
            tell(told, x::meanValue);
        }
        return told.append(cells(x)).toString();
    }

    private static void tell(StringBuilder told, Checks.Call call) {
        told.append(Checks.outcome(call)).append(' ');
    }
}
