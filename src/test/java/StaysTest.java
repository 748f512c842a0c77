/**
 * The sentences on what a call leaves as it is: calls that look, calls that are no actions, and
 * undoing, which takes back changes of cells alone.
 */
final class StaysTest {
    private StaysTest() {
    }

    // ---- calls that look

    // "all other calls look": those with a cell
    static void callsWithACellThatLookLeaveNoTrace() {
        Twins.CellAsk[] looks = {MacroSheet::cell, MacroSheet::cellByAudit, MacroSheet::granted,
            MacroSheet::rule, MacroSheet::lastBy};
        for (Twins.Calls start : Twins.STARTS) {
            for (Twins.CellAsk look : looks) {
                Twins.dueNoTrace(start, x -> lookAtAllCells(x, look));
            }
        }
    }

    // "Returns why a macro cannot run at a cell." It does not run there, nor count as skipped.
    static void reasonLeavesNoTrace() {
        for (Twins.Calls start : Twins.STARTS) {
            for (int macro = 0; macro < 6; macro++) {
                int m = macro;
                Twins.dueNoTrace(start, x -> lookAtAllCells(x,
                        (y, column, row) -> y.reason(m, column, row)));
            }
        }
    }

    // "all other calls look": those with another number or with none
    static void callsWithoutACellThatLookLeaveNoTrace() {
        Twins.NumberAsk[] looks = {MacroSheet::steps, MacroSheet::entriesOf, MacroSheet::textAt,
            (x, none) -> x.skipped(), (x, none) -> x.entries(), (x, none) -> x.macroShare(),
            (x, none) -> x.meanValue()};
        for (Twins.Calls start : Twins.STARTS) {
            for (Twins.NumberAsk look : looks) {
                Twins.dueNoTrace(start, x -> {
                    for (int number = -1; number < 12; number++) {
                        int n = number;
                        Checks.outcome(() -> look.of(x, n));
                    }
                });
            }
        }
    }

    // "Writes a step of a macro as text, in place of the text before": only the text is another.
    static void writeStepLeavesAllButTheText() {
        for (Twins.Calls start : Twins.STARTS) {
            Twins.dueNoTrace(x -> { start.on(x); writeFirstStep(x); }, x -> {
                for (int macro = 0; macro < 6; macro++) {
                    int m = macro;
                    for (int step = 0; step < 3; step++) {
                        int s = step;
                        Checks.outcome(() -> x.writeStep(m, s));
                    }
                }
                writeFirstStep(x);
            });
        }
    }

    // ".. in place of the text before": no other call puts anything in its place.
    static void theTextStaysThroughEachOtherCall() {
        Twins.Ask[] calls = {x -> x.set(1, 6, 9), x -> x.add(1, 6, 2), x -> x.run(0, 3, 5),
            MacroSheet::undo, MacroSheet::addMacro, x -> x.grant(2, 0, 0, 1, 1),
            x -> x.takeGrants(0), x -> x.addRule(0, 0, 5, 7, 1, 8), x -> x.setRank(0, 9),
            x -> x.record(0, 2, 3), x -> x.copyBase(2, 4), MacroSheet::stop};
        MacroSheet x = new MacroSheet();
        Twins.busy(x);
        for (Twins.Ask call : calls) {
            call.of(x);
            StringBuilder text = new StringBuilder();
            for (int i = 0; i < "a+0-1=-4".length(); i++) {
                text.append(x.textAt(i));
            }
            Checks.due("a+0-1=-4", text.toString());
            Checks.dueThrow(IndexOutOfBoundsException.class, () -> x.textAt(text.length()));
        }
    }

    // "Returns the same value": of each cell, behind each action and each undoing of one
    static void cellAndCellByAuditTellTheSame() {
        Twins.Ask[] calls = {x -> x.set(0, 1, 5), x -> x.run(0, 2, 4), x -> x.add(1, 1, -8),
            MacroSheet::undo, MacroSheet::undo, x -> x.run(1, 3, 3), x -> x.set(0, 7, 2),
            x -> x.set(0, 7, 0), MacroSheet::undo, MacroSheet::undo, MacroSheet::undo,
            MacroSheet::undo, x -> x.run(0, 0, 2)};
        for (Twins.Calls start : Twins.STARTS) {
            for (int count = 0; count <= calls.length; count++) {
                MacroSheet x = new MacroSheet();
                start.on(x);
                for (int i = 0; i < count; i++) {
                    Twins.Ask call = calls[i];
                    Checks.outcome(() -> call.of(x));
                }
                lookAtAllCells(x, (y, column, row) -> {
                    Checks.due(y.cell(column, row), y.cellByAudit(column, row));
                    return 0;
                });
            }
        }
    }

    // ---- calls that are no actions

    // "A change by hand, and a macro that is run by hand, are actions": nothing else is.
    static void otherCallsChangeNoCellAndAreNotAmongTheEight() {
        MacroSheet x = Checks.sheetWithMacros(1);
        Checks.recordAdd(x, 0, 0, 1, 1);
        Checks.ruleForAll(x, 0, 2);
        for (int i = 1; i <= 5; i++) {
            Checks.due(1, x.set(1, i, i));
            Checks.due(i, x.addMacro());
            Checks.due(i, x.addRule(0, 0, 5, 7, 0, 3));
            Checks.due(0, x.record(i, 1, i));
            Checks.due(0, x.stop());
            Checks.due(1, x.grant(i, 0, 0, 5, 7));
            Checks.due(1, x.takeGrants(i));
            Checks.due(3, x.setRank(i, 9));
            Checks.due(7, x.writeStep(0, 0));
            Checks.due(i, x.entries());
            Checks.due(i, x.skipped());
            Checks.due((i + 1) / 2.0, x.meanValue());
        }
        for (int i = 5; i >= 1; i--) {
            Checks.due(1, x.undo());
            Checks.due(0, x.cell(1, i));
        }
        Checks.dueThrow(IllegalStateException.class, x::undo);
        Checks.dueThrow(IllegalStateException.class, x::addMacro);
        Checks.dueThrow(IllegalStateException.class, () -> x.addRule(0, 0, 5, 7, 0, 3));
    }

    // "each change by hand .. becomes its next step": no other call does, nor ends the recording.
    static void otherCallsAreNoStepsAndDoNotEndTheRecording() {
        MacroSheet x = Checks.sheetWithMacros(2);
        Checks.recordAdd(x, 1, 0, 1, 1);
        x.record(0, 3, 3);
        x.set(3, 3, 4);
        x.addMacro();
        x.grant(0, 0, 0, 5, 7);
        x.grant(1, 0, 0, 5, 7);
        x.addRule(0, 0, 0, 0, 1, 0);
        x.setRank(0, 8);
        x.run(1, 4, 4);
        x.reason(0, 3, 3);
        x.writeStep(0, 0);
        x.undo();
        x.undo();
        x.takeGrants(0);
        Checks.due(1, x.steps(0));
        Checks.due(0, x.copyBase(3, 4));
        Checks.due(2, x.stop());
        Checks.due("s+0+0=4", Checks.written(x, 0, 0));
        Checks.due("c+0+1", Checks.written(x, 0, 1));
    }

    // The audit tells which macro made a change, whatever becomes of the macro.
    static void entriesStayThoseOfTheirMacro() {
        MacroSheet x = Checks.sheetWithMacros(2);
        Checks.recordAdd(x, 0, 0, 0, 3);
        Checks.grantAll(x, 0);
        x.set(5, 7, 1);
        x.run(0, 2, 2);
        x.takeGrants(0);
        Checks.due(1, x.record(0, 0, 0));
        Checks.due(1, x.entriesOf(0));
        Checks.due(0, x.lastBy(2, 2));
        Checks.due(0.5f, x.macroShare());
        Checks.due(3, x.cellByAudit(2, 2));
        // What was changed within the grants is undone without them.
        Checks.due(1, x.undo());
        Checks.due(0, x.cell(2, 2));
        Checks.due(0, x.entriesOf(0));
    }

    // ---- undoing

    // "all cells get back what they had, and the entries of the action are taken out": no more
    static void undoLeavesWhatOtherCallsMadeSinceTheAction() {
        Twins.Ask[] actions = {x -> x.set(2, 2, 7), x -> x.add(3, 3, -1), x -> x.run(0, 1, 1)};
        for (Twins.Ask action : actions) {
            Twins.dueAlike(x -> {
                twoMacros(x);
                otherCalls(x);
            }, x -> {
                twoMacros(x);
                Checks.due(true, (int) action.of(x) > 0);
                otherCalls(x);
                Checks.due(true, x.undo() > 0);
            });
        }
    }

    // "the latest one first": also if the macro that ran is another by now
    static void undoTakesBackWhatTheMacroDidByThen() {
        MacroSheet x = Checks.sheetWithMacros(1);
        Checks.recordAdd(x, 0, 1, 1, 6);
        Checks.grantAll(x, 0);
        Checks.due(1, x.run(0, 0, 0));
        Checks.recordAdd(x, 0, 2, 2, 9);
        Checks.due(1, x.undo());
        Checks.due(0, x.cell(1, 1));
        Checks.due(0, x.cell(2, 2));
        Checks.due("a+2+2=9", Checks.written(x, 0, 0));
        Checks.due(1, x.run(0, 0, 0));
        Checks.due(9, x.cell(2, 2));
    }

    // ---- what the tests begin with

    private static void twoMacros(MacroSheet x) {
        x.addMacro();
        x.addMacro();
        x.record(0, 0, 0);
        x.add(0, 0, 3);
        x.copyBase(1, 0);
        x.stop();
        x.grant(0, 0, 0, 5, 7);
        x.addRule(2, 2, 3, 3, 0, 1);
        x.set(5, 5, 50);
    }

    /** Calls that are no actions and ask nothing of the values of cells. */
    private static void otherCalls(MacroSheet x) {
        x.addMacro();
        x.grant(1, 1, 1, 2, 2);
        x.grant(2, 0, 0, 5, 7);
        x.takeGrants(2);
        x.addRule(0, 0, 5, 7, 1, 4);
        x.setRank(0, 6);
        x.writeStep(0, 1);
        x.record(1, 4, 4);
    }

    private static void writeFirstStep(MacroSheet x) {
        Checks.outcome(() -> x.writeStep(0, 0));
    }

    private static void lookAtAllCells(MacroSheet x, Twins.CellAsk look) {
        for (int column = 0; column < 6; column++) {
            for (int row = 0; row < 8; row++) {
                int c = column;
                int r = row;
                Checks.outcome(() -> look.of(x, c, r));
            }
        }
    }
}
