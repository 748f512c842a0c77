/** Promises 1 to 6: a new object, and cells that are changed by hand. */
final class CellsTest {
    private CellsTest() {
    }

    static void promise01ANewSheetIsEmpty() {
        MacroSheet x = new MacroSheet();
        for (int column = 0; column < 6; column++) {
            for (int row = 0; row < 8; row++) {
                int c = column;
                int r = row;
                Checks.due(0, x.cell(c, r));
                Checks.due(0, x.cellByAudit(c, r));
                Checks.due(0, x.granted(c, r));
                Checks.dueThrow(java.util.NoSuchElementException.class, () -> x.rule(c, r));
                Checks.dueThrow(java.util.NoSuchElementException.class, () -> x.lastBy(c, r));
            }
        }
        Checks.due(0, x.entries());
        Checks.due(0, x.entriesOf(-1));
        Checks.due(0, x.skipped());
        Checks.dueThrow(IndexOutOfBoundsException.class, () -> x.steps(0));
        Checks.dueThrow(IndexOutOfBoundsException.class, () -> x.setRank(0, 0));
        Checks.dueThrow(IndexOutOfBoundsException.class, () -> x.textAt(0));
        Checks.dueThrow(IllegalStateException.class, x::undo);
        Checks.dueThrow(IllegalStateException.class, x::stop);
    }

    static void promise01SheetsAreApart() {
        MacroSheet x = new MacroSheet();
        MacroSheet y = new MacroSheet();
        x.set(0, 0, 5);
        x.addMacro();
        Checks.due(0, y.cell(0, 0));
        Checks.due(0, y.entries());
        Checks.due(0, y.addMacro());
    }

    static void promise02SetLetsACellBecomeANumber() {
        MacroSheet x = new MacroSheet();
        Checks.due(1, x.set(5, 7, 12));
        Checks.due(12, x.cell(5, 7));
        Checks.due(1, x.set(5, 7, -3));
        Checks.due(-3, x.cell(5, 7));
        Checks.due(2, x.entries());
    }

    static void promise02SetTakesTheWholeRangeAndNoMore() {
        MacroSheet x = new MacroSheet();
        Checks.due(1, x.set(0, 0, 9999));
        Checks.due(1, x.set(0, 0, -9999));
        for (int wrong : new int[] {10000, -10000, Integer.MAX_VALUE, Integer.MIN_VALUE}) {
            Checks.dueThrow(IllegalArgumentException.class, () -> x.set(0, 0, wrong));
        }
        Checks.due(-9999, x.cell(0, 0));
    }

    static void promise02SetToTheSameValueIsNoChange() {
        MacroSheet x = new MacroSheet();
        Checks.due(0, x.set(1, 1, 0));
        Checks.due(1, x.set(1, 1, 4));
        Checks.due(0, x.set(1, 1, 4));
        Checks.due(1, x.entries());
        Checks.due(1, x.undo());
        Checks.dueThrow(IllegalStateException.class, x::undo);
    }

    static void promise02SetReturnsAllChangesOfTheAction() {
        MacroSheet x = Checks.sheetWithMacros(1);
        Checks.recordAdd(x, 0, 1, 0, 1);
        x.grant(0, 1, 0, 5, 0);
        Checks.ruleForAll(x, 0, 0);
        Checks.due(4, x.set(0, 0, 5));
        Checks.due(1, x.cell(3, 0));
        Checks.due(0, x.cell(4, 0));
    }

    static void promise03AddAddsANumber() {
        MacroSheet x = new MacroSheet();
        Checks.due(1, x.add(2, 2, 7));
        Checks.due(1, x.add(2, 2, -10));
        Checks.due(-3, x.cell(2, 2));
        Checks.due(0, x.add(2, 2, 0));
        Checks.due(2, x.entries());
    }

    static void promise03AddKeepsNumberAndValueInRange() {
        MacroSheet x = new MacroSheet();
        Checks.due(1, x.add(0, 0, 9999));
        Checks.dueThrow(IllegalArgumentException.class, () -> x.add(0, 0, 1));
        Checks.dueThrow(IllegalArgumentException.class, () -> x.add(0, 0, -10000));
        Checks.due(1, x.add(0, 0, -9999));
        Checks.due(1, x.add(0, 0, -9999));
        Checks.dueThrow(IllegalArgumentException.class, () -> x.add(0, 0, -1));
        Checks.dueThrow(IllegalArgumentException.class, () -> x.add(0, 0, 10000));
        Checks.dueThrow(IllegalArgumentException.class, () -> x.add(0, 0, Integer.MIN_VALUE));
        Checks.dueThrow(IllegalArgumentException.class, () -> x.add(0, 0, Integer.MAX_VALUE));
        Checks.due(-9999, x.cell(0, 0));
    }

    static void promise03AddReturnsAllChangesOfTheAction() {
        MacroSheet x = Checks.sheetWithMacros(1);
        Checks.recordAdd(x, 0, 0, 1, 2);
        Checks.grantAll(x, 0);
        x.addRule(3, 0, 3, 1, 0, 9);
        Checks.due(3, x.add(3, 0, 1));
        Checks.due(2, x.cell(3, 2));
    }

    static void promise04CopyBaseTakesTheValueOfTheBaseCell() {
        MacroSheet x = Checks.sheetWithMacros(1);
        x.set(2, 3, 8);
        x.record(0, 2, 3);
        Checks.due(1, x.copyBase(4, 4));
        Checks.due(8, x.cell(4, 4));
        Checks.due(0, x.copyBase(4, 4));
        Checks.due(0, x.copyBase(2, 3));
        x.set(2, 3, 9);
        Checks.due(1, x.copyBase(4, 4));
        Checks.due(9, x.cell(4, 4));
        Checks.due(5, x.stop());
    }

    static void promise04CopyBaseNeedsARecording() {
        MacroSheet x = Checks.sheetWithMacros(1);
        Checks.dueThrow(IllegalStateException.class, () -> x.copyBase(0, 0));
        x.record(0, 0, 0);
        Checks.due(0, x.copyBase(1, 0));
        x.stop();
        Checks.dueThrow(IllegalStateException.class, () -> x.copyBase(0, 0));
    }

    static void promise05CellTellsEachCellOnItsOwn() {
        MacroSheet x = new MacroSheet();
        for (int column = 0; column < 6; column++) {
            for (int row = 0; row < 8; row++) {
                x.set(column, row, 10 * column + row + 1);
            }
        }
        for (int column = 0; column < 6; column++) {
            for (int row = 0; row < 8; row++) {
                Checks.due(10 * column + row + 1, x.cell(column, row));
                Checks.due(10 * column + row + 1, x.cellByAudit(column, row));
            }
        }
    }

    static void promise06CellByAuditMakesAllChangesAnew() {
        MacroSheet x = Checks.sheetWithMacros(1);
        x.set(0, 0, 3);
        x.add(0, 0, 4);
        Checks.due(7, x.cellByAudit(0, 0));
        x.set(0, 0, 0);
        Checks.due(0, x.cellByAudit(0, 0));
        x.undo();
        Checks.due(7, x.cellByAudit(0, 0));
        Checks.recordAdd(x, 0, 0, 0, 5);
        Checks.grantAll(x, 0);
        x.run(0, 0, 0);
        Checks.due(12, x.cellByAudit(0, 0));
        Checks.due(0, x.cellByAudit(1, 0));
    }

    static void promise06CellByAuditKnowsActionsThatCannotBeUndone() {
        MacroSheet x = new MacroSheet();
        for (int i = 1; i <= 20; i++) {
            x.add(i % 2, 0, i);
        }
        Checks.due(110, x.cellByAudit(0, 0));
        Checks.due(100, x.cellByAudit(1, 0));
        for (int i = 0; i < 8; i++) {
            x.undo();
        }
        Checks.due(42, x.cellByAudit(0, 0));
        Checks.due(36, x.cellByAudit(1, 0));
        Checks.due(42, x.cell(0, 0));
    }
}
