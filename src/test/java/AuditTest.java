import java.util.NoSuchElementException;

/** Promises 20 to 27: undoing, the audit, the text of a step, and what is told in numbers. */
final class AuditTest {
    private AuditTest() {
    }

    static void promise20UndoTakesBackTheLatestActionFirst() {
        MacroSheet x = new MacroSheet();
        x.set(0, 0, 1);
        x.set(1, 0, 2);
        x.set(0, 0, 3);
        Checks.due(1, x.undo());
        Checks.due(1, x.cell(0, 0));
        Checks.due(2, x.entries());
        Checks.due(1, x.undo());
        Checks.due(0, x.cell(1, 0));
        Checks.due(1, x.cell(0, 0));
        Checks.due(1, x.undo());
        Checks.due(0, x.cell(0, 0));
        Checks.dueThrow(IllegalStateException.class, x::undo);
    }

    static void promise20UndoTakesBackAllThatAnActionCaused() {
        MacroSheet x = Checks.sheetWithMacros(1);
        x.record(0, 0, 0);
        x.add(0, 0, 3);
        x.add(0, 0, 4);
        x.set(1, 0, 9);
        x.stop();
        Checks.grantAll(x, 0);
        x.set(2, 2, 10);
        x.addRule(2, 2, 2, 2, 0, 0);
        int entries = x.entries();
        Checks.due(16, x.add(2, 2, 1));
        Checks.due(60, x.cell(2, 2));
        Checks.due(9, x.cell(3, 2));
        Checks.due(entries + 16, x.entries());
        Checks.due(16, x.undo());
        Checks.due(10, x.cell(2, 2));
        Checks.due(10, x.cellByAudit(2, 2));
        Checks.due(0, x.cell(3, 2));
        Checks.due(0, x.entriesOf(0));
        Checks.due(entries, x.entries());
    }

    static void promise20EightActionsCanBeUndone() {
        MacroSheet x = new MacroSheet();
        for (int i = 1; i <= 10; i++) {
            x.set(0, 0, i);
        }
        for (int i = 9; i >= 2; i--) {
            Checks.due(1, x.undo());
            Checks.due(i, x.cell(0, 0));
        }
        Checks.dueThrow(IllegalStateException.class, x::undo);
        Checks.due(2, x.entries());
        Checks.due(2, x.cell(0, 0));
        x.set(0, 0, 7);
        Checks.due(1, x.undo());
        Checks.dueThrow(IllegalStateException.class, x::undo);
    }

    static void promise20ExactlyEightActionsCanAllBeUndone() {
        MacroSheet x = new MacroSheet();
        for (int i = 1; i <= 8; i++) {
            x.set(0, 0, i);
        }
        for (int i = 7; i >= 0; i--) {
            x.undo();
            Checks.due(i, x.cell(0, 0));
        }
        Checks.dueThrow(IllegalStateException.class, x::undo);
        Checks.due(0, x.entries());
    }

    static void promise20ActionsBehindAnUndoCanBeUndone() {
        MacroSheet x = new MacroSheet();
        for (int i = 1; i <= 9; i++) {
            x.set(0, 0, i);
        }
        x.undo();
        x.undo();
        x.set(0, 0, 50);
        x.set(0, 0, 51);
        int[] due = {50, 7, 6, 5, 4, 3, 2, 1};
        for (int value : due) {
            Checks.due(1, x.undo());
            Checks.due(value, x.cell(0, 0));
        }
        Checks.dueThrow(IllegalStateException.class, x::undo);
        Checks.due(1, x.entries());
    }

    static void promise20ActionsWithoutChangesAreNotAmongTheEight() {
        MacroSheet x = Checks.sheetWithMacros(1);
        for (int i = 1; i <= 8; i++) {
            x.set(0, 0, i);
            Checks.due(0, x.add(0, 0, 0));
            Checks.due(0, x.run(0, 1, 1));
        }
        for (int i = 7; i >= 0; i--) {
            Checks.due(1, x.undo());
            Checks.due(i, x.cell(0, 0));
        }
        Checks.dueThrow(IllegalStateException.class, x::undo);
    }

    static void promise20RecordedStepsStay() {
        MacroSheet x = Checks.sheetWithMacros(1);
        x.record(0, 0, 0);
        x.set(1, 0, 4);
        x.undo();
        Checks.due(1, x.steps(0));
        x.set(2, 0, 5);
        Checks.due(2, x.stop());
        x.undo();
        Checks.due(2, x.steps(0));
        Checks.due("s+1+0=4", Checks.written(x, 0, 0));
        Checks.due("s+2+0=5", Checks.written(x, 0, 1));
    }

    static void promise20UndoRunsNoRule() {
        MacroSheet x = Checks.sheetWithMacros(1);
        Checks.recordAdd(x, 0, 1, 0, 1);
        x.set(0, 0, 5);
        Checks.grantAll(x, 0);
        x.addRule(0, 0, 0, 0, 0, 0);
        Checks.due(1, x.undo());
        Checks.due(0, x.cell(1, 0));
        Checks.due(0, x.entries());
    }

    static void promise21EntriesCountsChanges() {
        MacroSheet x = Checks.sheetWithMacros(1);
        Checks.recordAdd(x, 0, 0, 1, 1);
        Checks.grantAll(x, 0);
        Checks.due(0, x.entries());
        x.run(0, 0, 0);
        Checks.due(1, x.entries());
        x.set(3, 3, 3);
        x.set(3, 3, 3);
        Checks.due(2, x.entries());
        x.undo();
        Checks.due(1, x.entries());
        for (int i = 1; i <= 300; i++) {
            x.set(0, 0, i);
        }
        Checks.due(301, x.entries());
        Checks.due(300, x.cellByAudit(0, 0));
    }

    static void promise22EntriesOfCountsForEachMacro() {
        MacroSheet x = Checks.sheetWithMacros(3);
        Checks.recordAdd(x, 0, 0, 0, 1);
        Checks.recordAdd(x, 2, 0, 1, 1);
        Checks.grantAll(x, 0);
        Checks.grantAll(x, 2);
        x.addRule(0, 0, 0, 0, 2, 0);
        x.set(0, 0, 1);
        x.run(0, 0, 0);
        x.run(0, 3, 3);
        Checks.due(1, x.entriesOf(-1));
        Checks.due(2, x.entriesOf(0));
        Checks.due(0, x.entriesOf(1));
        Checks.due(2, x.entriesOf(2));
        x.undo();
        Checks.due(1, x.entriesOf(0));
        int[] wrong = {-2, 3, 6, Integer.MIN_VALUE, Integer.MAX_VALUE};
        for (int number : wrong) {
            Checks.dueThrow(IndexOutOfBoundsException.class, () -> x.entriesOf(number));
        }
    }

    static void promise23LastByTellsWhoChangedACellLast() {
        MacroSheet x = Checks.sheetWithMacros(2);
        Checks.recordAdd(x, 1, 0, 0, 1);
        Checks.grantAll(x, 1);
        Checks.dueThrow(NoSuchElementException.class, () -> x.lastBy(2, 2));
        x.set(2, 2, 1);
        Checks.due(-1, x.lastBy(2, 2));
        x.run(1, 2, 2);
        x.set(3, 2, 1);
        Checks.due(1, x.lastBy(2, 2));
        Checks.due(-1, x.lastBy(3, 2));
        x.set(2, 2, 2);
        Checks.due(1, x.lastBy(2, 2));
        x.set(2, 2, 0);
        Checks.due(-1, x.lastBy(2, 2));
        x.undo();
        Checks.due(1, x.lastBy(2, 2));
        x.undo();
        x.undo();
        x.undo();
        Checks.dueThrow(NoSuchElementException.class, () -> x.lastBy(2, 2));
    }

    static void promise23LastByKnowsTheFirstEntryOfAll() {
        MacroSheet x = Checks.sheetWithMacros(2);
        Checks.recordAdd(x, 1, 0, 0, 1);
        Checks.grantAll(x, 1);
        x.run(1, 4, 4);
        Checks.due(1, x.entries());
        Checks.due(1, x.lastBy(4, 4));
        x.set(4, 5, 1);
        Checks.due(1, x.lastBy(4, 4));
    }

    static void promise24WriteStepWritesEachKind() {
        MacroSheet x = Checks.sheetWithMacros(1);
        x.record(0, 2, 3);
        x.add(3, 1, 5);
        x.set(2, 3, -3);
        x.copyBase(1, 3);
        x.set(5, 7, 9999);
        x.add(0, 0, -9999);
        x.add(2, 4, 0);
        x.stop();
        Checks.due("a+1-2=5", Checks.written(x, 0, 0));
        Checks.due("s+0+0=-3", Checks.written(x, 0, 1));
        Checks.due("c-1+0", Checks.written(x, 0, 2));
        Checks.due("s+3+4=9999", Checks.written(x, 0, 3));
        Checks.due("a-2-3=-9999", Checks.written(x, 0, 4));
        Checks.due("a+0+1=0", Checks.written(x, 0, 5));
    }

    static void promise24WriteStepKnowsTheFarthestCells() {
        MacroSheet x = Checks.sheetWithMacros(2);
        x.record(0, 0, 0);
        x.copyBase(5, 7);
        x.stop();
        x.record(1, 5, 7);
        x.set(0, 0, -1000);
        x.stop();
        Checks.due("c+5+7", Checks.written(x, 0, 0));
        Checks.due("s-5-7=-1000", Checks.written(x, 1, 0));
    }

    static void promise25TextAtIsEmptyAtFirst() {
        MacroSheet x = new MacroSheet();
        for (int index : new int[] {-1, 0, 1, Integer.MIN_VALUE, Integer.MAX_VALUE}) {
            Checks.dueThrow(IndexOutOfBoundsException.class, () -> x.textAt(index));
        }
    }

    static void promise25TextAtKnowsTheLatestTextAlone() {
        MacroSheet x = Checks.sheetWithMacros(1);
        x.record(0, 0, 0);
        x.set(0, 0, -9999);
        x.copyBase(0, 1);
        x.stop();
        Checks.due(11, x.writeStep(0, 0));
        Checks.due('s', x.textAt(0));
        Checks.due('9', x.textAt(10));
        Checks.due(5, x.writeStep(0, 1));
        Checks.due('c', x.textAt(0));
        Checks.due('1', x.textAt(4));
        for (int index : new int[] {-1, 5, 10, Integer.MIN_VALUE, Integer.MAX_VALUE}) {
            Checks.dueThrow(IndexOutOfBoundsException.class, () -> x.textAt(index));
        }
        x.record(0, 0, 0);
        Checks.due('c', x.textAt(0));
    }

    static void promise26MacroShareIsAShareOfTheEntries() {
        MacroSheet x = Checks.sheetWithMacros(1);
        Checks.recordAdd(x, 0, 0, 0, 1);
        Checks.grantAll(x, 0);
        Checks.dueThrow(ArithmeticException.class, x::macroShare);
        x.set(0, 0, 1);
        Checks.due(0.0f, x.macroShare());
        x.run(0, 1, 1);
        Checks.due(0.5f, x.macroShare());
        x.run(0, 1, 1);
        Checks.due(2.0f / 3.0f, x.macroShare());
        x.undo();
        x.undo();
        x.undo();
        x.run(0, 0, 0);
        Checks.due(1.0f, x.macroShare());
        x.undo();
        Checks.dueThrow(ArithmeticException.class, x::macroShare);
    }

    static void promise27MeanValueLeavesOutZeros() {
        MacroSheet x = new MacroSheet();
        Checks.dueThrow(ArithmeticException.class, x::meanValue);
        x.set(0, 0, 5);
        Checks.due(5.0, x.meanValue());
        x.set(5, 7, -8);
        Checks.due(-1.5, x.meanValue());
        x.set(3, 3, 4);
        Checks.due(1.0 / 3.0, x.meanValue());
        x.set(3, 3, 3);
        Checks.due(0.0, x.meanValue());
        x.set(3, 3, 0);
        Checks.due(-1.5, x.meanValue());
        x.set(0, 0, 0);
        x.set(5, 7, 0);
        Checks.dueThrow(ArithmeticException.class, x::meanValue);
    }

    static void promise27MeanValueOfAllCells() {
        MacroSheet x = new MacroSheet();
        for (int column = 0; column < 6; column++) {
            for (int row = 0; row < 8; row++) {
                x.set(column, row, column == 0 ? -9999 : 9999);
            }
        }
        Checks.due((double) (9999 * 32) / 48.0, x.meanValue());
    }
}
