import java.util.NoSuchElementException;

/**
 * The sentences of "Terms" on cells, ranges, changes, macros, recording and running that name a
 * boundary, each of them above its tests.
 */
final class CellTermsTest {
    private CellTermsTest() {
    }

    // ---- cells

    // "The sheet has 6 columns and 8 rows of cells, numbered from 0 each"
    static void cellsAreInSixColumnsAndEightRows() {
        MacroSheet x = new MacroSheet();
        int found = 0;
        for (int column = -2; column <= 8; column++) {
            for (int row = -2; row <= 10; row++) {
                int c = column;
                int r = row;
                if (Checks.outcome(() -> x.cell(c, r)).startsWith("throws.")) {
                    continue;
                }
                found++;
                Checks.due(true, c >= 0 && c <= 5 && r >= 0 && r <= 7);
            }
        }
        Checks.due(48, found);
    }

    // ".. with values from -9999 to 9999, 0 at first"
    static void valuesGoFromMinus9999To9999InEachKindOfChange() {
        for (int end : new int[] {-9999, 9999}) {
            MacroSheet x = Checks.sheetWithMacros(1);
            Checks.due(0, x.cell(5, 7));
            Checks.due(1, x.set(5, 7, end));
            x.record(0, 5, 7);
            Checks.due(1, x.copyBase(0, 0));
            Checks.due(1, x.add(0, 7, end));
            Checks.due(1, x.set(5, 0, end));
            for (int[] cell : new int[][] {{5, 7}, {0, 0}, {0, 7}, {5, 0}}) {
                Checks.due(end, x.cell(cell[0], cell[1]));
                Checks.due(end, x.cellByAudit(cell[0], cell[1]));
            }
            Checks.due((double) end, x.meanValue());
        }
    }

    // "the second one has neither a lower column nor a lower row"
    static void aRangeMayBeOneCellOneColumnOrOneRow() {
        for (int[] cells : new int[][] {{2, 3, 2, 3}, {2, 3, 2, 7}, {2, 3, 5, 3}, {0, 0, 5, 7}}) {
            MacroSheet x = Checks.sheetWithMacros(1);
            Checks.due(1, x.grant(0, cells[0], cells[1], cells[2], cells[3]));
            Checks.due(0, x.addRule(cells[0], cells[1], cells[2], cells[3], 0, 0));
            dueInRange(x, cells);
        }
    }

    // "it consists of all cells whose columns and rows are between theirs, both included"
    static void aRangeHoldsBothItsEndsAndNoCellBeyondThem() {
        for (int column = 0; column < 6; column++) {
            for (int row = 0; row < 8; row++) {
                int[] cells = {column / 2, row / 2, column, row};
                MacroSheet x = Checks.sheetWithMacros(1);
                x.grant(0, cells[0], cells[1], cells[2], cells[3]);
                x.addRule(cells[0], cells[1], cells[2], cells[3], 0, 9);
                dueInRange(x, cells);
            }
        }
    }

    // ---- changes

    // "A change that leaves the value as it is, is none."
    static void aChangeByHandThatLeavesTheValueIsNone() {
        MacroSheet x = Checks.sheetWithMacros(2);
        Checks.recordAdd(x, 1, 0, 1, 1);
        Checks.grantAll(x, 1);
        x.set(2, 2, 6);
        x.set(0, 0, 6);
        Checks.ruleForAll(x, 1, 5);
        x.record(0, 0, 0);
        Twins.Ask[] none = {y -> y.set(2, 2, 6), y -> y.add(2, 2, 0), y -> y.copyBase(2, 2),
            y -> y.copyBase(0, 0), y -> y.set(5, 7, 0)};
        for (Twins.Ask call : none) {
            Checks.due(0, call.of(x));
        }
        Checks.due(2, x.entries());
        Checks.due(0, x.cell(2, 3));
        Checks.due(-1, x.lastBy(2, 2));
        Checks.dueThrow(NoSuchElementException.class, () -> x.lastBy(5, 7));
        Checks.due(1, x.undo());
        Checks.due(0, x.cell(0, 0));
        Checks.due(1, x.undo());
        Checks.dueThrow(IllegalStateException.class, x::undo);
    }

    // "A change that leaves the value as it is, is none." Neither is one by a macro.
    static void aStepThatLeavesTheValueIsNoChange() {
        MacroSheet x = Checks.sheetWithMacros(2);
        x.record(0, 0, 0);
        x.set(1, 0, 0);
        x.add(1, 0, 0);
        x.copyBase(1, 0);
        x.copyBase(0, 0);
        x.stop();
        Checks.recordAdd(x, 1, 0, 1, 1);
        Checks.grantAll(x, 0);
        Checks.grantAll(x, 1);
        Checks.ruleForAll(x, 1, 0);
        Checks.due(0, x.run(0, 2, 3));
        Checks.due(0, x.entries());
        Checks.due(0, x.entriesOf(0));
        Checks.dueThrow(NoSuchElementException.class, () -> x.lastBy(3, 3));
        Checks.dueThrow(IllegalStateException.class, x::undo);
    }

    // A cell that gets back in an action what it had was changed all the same.
    static void aChangeThereAndBackIsTwoChanges() {
        MacroSheet x = Checks.sheetWithMacros(1);
        x.record(0, 0, 0);
        x.add(0, 0, 1);
        x.add(0, 0, -1);
        x.stop();
        Checks.grantAll(x, 0);
        Checks.due(2, x.run(0, 4, 4));
        Checks.due(0, x.cell(4, 4));
        Checks.due(0, x.lastBy(4, 4));
        Checks.due(4, x.entries());
        Checks.due(2, x.undo());
    }

    // ---- macros

    // "At most 6 macros are numbered from 0."
    static void macrosAreNumberedFrom0To5() {
        MacroSheet x = new MacroSheet();
        for (int i = 0; i <= 5; i++) {
            int count = i;
            Checks.dueThrow(IndexOutOfBoundsException.class, () -> x.steps(count));
            Checks.due(i, x.addMacro());
            Checks.due(0, x.steps(i));
        }
        Checks.dueThrow(IllegalStateException.class, x::addMacro);
        Checks.dueThrow(IllegalStateException.class, x::addMacro);
        Checks.dueThrow(IndexOutOfBoundsException.class, () -> x.steps(6));
        Checks.due(0, x.record(5, 5, 7));
    }

    // "A macro has at most 10 steps"
    static void aMacroHasTenStepsAndNoEleventh() {
        MacroSheet x = Checks.sheetWithMacros(1);
        x.record(0, 0, 0);
        for (int i = 1; i <= 12; i++) {
            x.set(0, 0, i);
            Checks.due(Math.min(i, 10), x.steps(0));
        }
        for (int i = 0; i < 10; i++) {
            Checks.due("s+0+0=" + (i + 1), Checks.written(x, 0, i));
        }
        Checks.dueThrow(IndexOutOfBoundsException.class, () -> x.writeStep(0, 10));
        Checks.grantAll(x, 0);
        Checks.due(10, x.run(0, 5, 7));
        Checks.due(10, x.cell(5, 7));
    }

    // "how many columns and rows its cell is away from the cell at which the macro runs"
    static void aStepIsUpTo5ColumnsAnd7RowsAway() {
        int[][] corners = {{0, 0}, {5, 0}, {0, 7}, {5, 7}};
        for (int[] base : corners) {
            MacroSheet x = Checks.sheetWithMacros(1);
            Checks.grantAll(x, 0);
            x.record(0, base[0], base[1]);
            for (int[] cell : corners) {
                x.add(cell[0], cell[1], 3);
            }
            x.stop();
            for (int i = 0; i < 4; i++) {
                Checks.due(String.format("a%+d%+d=3", corners[i][0] - base[0],
                        corners[i][1] - base[1]), Checks.written(x, 0, i));
            }
            for (int[] cell : corners) {
                boolean same = cell == base;
                Checks.due(same ? '-' : 'o', x.reason(0, cell[0], cell[1]));
            }
            Checks.due(4, x.run(0, base[0], base[1]));
            Checks.due(6, x.cell(5 - base[0], 7 - base[1]));
        }
    }

    // "A macro has at most 4 grants, which are ranges."
    static void aMacroHasFourGrantsEachOfWhichCounts() {
        MacroSheet x = Checks.sheetWithMacros(2);
        Checks.recordAdd(x, 0, 0, 0, 1);
        for (int i = 0; i < 4; i++) {
            Checks.due('g', x.reason(0, i, i));
            Checks.due(i + 1, x.grant(0, i, i, i, i));
            Checks.due('-', x.reason(0, i, i));
        }
        Checks.dueThrow(IllegalStateException.class, () -> x.grant(0, 4, 4, 4, 4));
        Checks.due('g', x.reason(0, 4, 4));
        Checks.due(1, x.grant(1, 4, 4, 4, 4));
        Checks.due(4, x.takeGrants(0));
        for (int i = 0; i < 4; i++) {
            Checks.due('g', x.reason(0, i, i));
        }
        Checks.due(1, x.granted(4, 4));
    }

    // "A macro never changes a cell outside its grants." Neither if a rule runs it.
    static void aRuleRunsAMacroOnlyWithinItsGrants() {
        MacroSheet x = Checks.sheetWithMacros(1);
        Checks.recordAdd(x, 0, 0, 0, 1);
        x.grant(0, 1, 2, 3, 4);
        Checks.ruleForAll(x, 0, 0);
        int skips = 0;
        for (int column = 0; column < 6; column++) {
            for (int row = 0; row < 8; row++) {
                boolean within = column >= 1 && column <= 3 && row >= 2 && row <= 4;
                skips += within ? 0 : 1;
                Checks.due(within ? 4 : 1, x.set(column, row, 50));
                Checks.due(within ? 53 : 50, x.cell(column, row));
                Checks.due(skips, x.skipped());
            }
        }
    }

    // ---- recording

    // "One macro at a time can be recorded"
    static void oneMacroAtATimeIsRecorded() {
        MacroSheet x = Checks.sheetWithMacros(2);
        x.record(0, 0, 0);
        Checks.dueThrow(IllegalStateException.class, () -> x.record(0, 0, 0));
        Checks.dueThrow(IllegalStateException.class, () -> x.record(1, 0, 0));
        x.set(0, 0, 1);
        Checks.due(1, x.steps(0));
        Checks.due(0, x.steps(1));
        Checks.due(1, x.stop());
        Checks.due(0, x.record(1, 0, 0));
        x.set(0, 0, 2);
        Checks.due(1, x.steps(0));
        Checks.due(1, x.steps(1));
    }

    // "its steps are thrown away first"
    static void recordThrowsAwayNoneOneOrTenSteps() {
        for (int count : new int[] {0, 1, 9, 10}) {
            MacroSheet x = Checks.sheetWithMacros(1);
            x.record(0, 0, 0);
            for (int i = 0; i < count; i++) {
                x.add(0, 0, 1);
            }
            if (count < 10) {
                Checks.due(count, x.stop());
            }
            Checks.due(count, x.record(0, 5, 7));
            Checks.due(0, x.steps(0));
            Checks.dueThrow(IndexOutOfBoundsException.class, () -> x.writeStep(0, 0));
            Checks.due(0, x.stop());
            Checks.due(0, x.record(0, 5, 7));
        }
    }

    // "As long as it is, each change by hand .. becomes its next step." Neither before nor behind.
    static void changesAheadOfARecordingAndBehindItAreNoSteps() {
        MacroSheet x = Checks.sheetWithMacros(1);
        x.set(1, 1, 1);
        x.record(0, 1, 1);
        Checks.due(0, x.steps(0));
        x.set(1, 1, 2);
        x.stop();
        x.set(1, 1, 3);
        Checks.due(1, x.steps(0));
        Checks.due("s+0+0=2", Checks.written(x, 0, 0));
    }

    // "The recording ends behind the action whose change became its 10th step." Not behind the 9th.
    static void theNinthStepDoesNotEndTheRecording() {
        MacroSheet x = Checks.sheetWithMacros(1);
        x.record(0, 0, 0);
        for (int i = 0; i < 9; i++) {
            x.add(0, 0, 1);
        }
        Checks.due(0, x.copyBase(0, 0));
        Checks.due(10, x.steps(0));
        Checks.dueThrow(IllegalStateException.class, x::stop);
        MacroSheet y = Checks.sheetWithMacros(1);
        y.record(0, 0, 0);
        for (int i = 0; i < 9; i++) {
            y.add(0, 0, 1);
        }
        Checks.due(9, y.stop());
    }

    // "The recording ends behind the action whose change became its 10th step."
    static void behindTheTenthStepNothingIsRecorded() {
        Twins.Ask[] tenth = {x -> x.set(0, 0, 77), x -> x.add(0, 0, 77), x -> x.copyBase(1, 0),
            x -> x.set(2, 0, 0), x -> x.add(0, 0, 0), x -> x.copyBase(0, 0)};
        for (Twins.Ask call : tenth) {
            MacroSheet x = Checks.sheetWithMacros(2);
            x.record(0, 0, 0);
            for (int i = 0; i < 9; i++) {
                x.add(0, 0, 1);
            }
            call.of(x);
            Checks.dueThrow(IllegalStateException.class, x::stop);
            Checks.dueThrow(IllegalStateException.class, () -> x.copyBase(3, 3));
            Checks.due(0, x.record(1, 2, 2));
            x.set(2, 2, 5);
            Checks.due(10, x.steps(0));
            Checks.due(1, x.stop());
        }
    }

    // A refused change would have been the 10th step: the recording goes on.
    static void aRefusedTenthChangeDoesNotEndTheRecording() {
        MacroSheet x = Checks.sheetWithMacros(1);
        x.record(0, 0, 0);
        for (int i = 0; i < 9; i++) {
            x.add(0, 0, 1);
        }
        Checks.dueThrow(IllegalArgumentException.class, () -> x.add(0, 0, 9999));
        Checks.dueThrow(IndexOutOfBoundsException.class, () -> x.copyBase(6, 0));
        Checks.due(9, x.stop());
    }

    // A run by hand is no change by hand, and what rules change is not by hand either.
    static void runsAreNoTenthStep() {
        MacroSheet x = Checks.sheetWithMacros(2);
        Checks.recordAdd(x, 1, 0, 1, 1);
        Checks.grantAll(x, 1);
        x.addRule(0, 0, 0, 0, 1, 0);
        x.record(0, 0, 0);
        for (int i = 0; i < 9; i++) {
            Checks.due(2, x.add(0, 0, 1));
        }
        Checks.due(1, x.run(1, 4, 4));
        Checks.due(9, x.steps(0));
        Checks.due(9, x.stop());
    }

    // "steps that were recorded stay", and so does a recording that has ended.
    static void undoneStepsStayAndTheRecordingStaysAsItIs() {
        MacroSheet x = Checks.sheetWithMacros(1);
        x.record(0, 0, 0);
        for (int i = 0; i < 9; i++) {
            x.add(0, 0, 1);
        }
        x.undo();
        Checks.due(9, x.steps(0));
        x.add(0, 0, 1);
        Checks.due(10, x.steps(0));
        x.undo();
        Checks.due(10, x.steps(0));
        Checks.dueThrow(IllegalStateException.class, x::stop);
    }

    // ---- running

    // "its steps are made one after the other, all of them or none"
    static void ifTheTenthStepCannotBeMadeNoneIs() {
        Twins.Calls start = CellTermsTest::addsOfWhichTheLastIsToTheRight;
        Twins.dueRefused(UnsupportedOperationException.class, start, x -> x.run(0, 5, 0));
        MacroSheet x = new MacroSheet();
        start.on(x);
        Checks.due('o', x.reason(0, 5, 0));
        Checks.due(10, x.run(0, 4, 0));
        Checks.due(1, x.cell(5, 0));
    }

    // "'o' a cell of a step is not in the sheet", on each of its four sides
    static void reasonIsOBeyondEachSideOfTheSheet() {
        int[][] steps = {{-1, 0}, {1, 0}, {0, -1}, {0, 1}};
        for (int[] step : steps) {
            MacroSheet x = Checks.sheetWithMacros(1);
            Checks.recordAdd(x, 0, step[0], step[1], 1);
            Checks.grantAll(x, 0);
            for (int column = 0; column < 6; column++) {
                for (int row = 0; row < 8; row++) {
                    int c = column + step[0];
                    int r = row + step[1];
                    boolean within = c >= 0 && c <= 5 && r >= 0 && r <= 7;
                    Checks.due(within ? '-' : 'o', x.reason(0, column, row));
                }
            }
        }
    }

    // "'g' it is in none of the grants of the macro", beyond each side of a grant
    static void reasonIsGBeyondEachSideOfAGrant() {
        MacroSheet x = Checks.sheetWithMacros(2);
        Checks.recordAdd(x, 0, 0, 0, 1);
        Checks.grantAll(x, 1);
        x.grant(0, 2, 3, 3, 5);
        for (int column = 0; column < 6; column++) {
            for (int row = 0; row < 8; row++) {
                boolean within = column >= 2 && column <= 3 && row >= 3 && row <= 5;
                Checks.due(within ? '-' : 'g', x.reason(0, column, row));
            }
        }
    }

    // ".. in none of the grants": the steps of a macro may lie in one grant each.
    static void stepsMayLieInOneGrantEach() {
        MacroSheet x = Checks.sheetWithMacros(1);
        x.record(0, 0, 0);
        x.add(0, 0, 1);
        x.add(5, 7, 1);
        x.stop();
        x.grant(0, 0, 0, 0, 0);
        Checks.due('g', x.reason(0, 0, 0));
        x.grant(0, 5, 7, 5, 7);
        Checks.due('-', x.reason(0, 0, 0));
        Checks.due(2, x.run(0, 0, 0));
    }

    // "'v' a value would be out of range", beyond each end
    static void reasonIsVBeyondEachEndOfTheValues() {
        for (int sign : new int[] {-1, 1}) {
            MacroSheet x = Checks.sheetWithMacros(1);
            Checks.recordAdd(x, 0, 0, 0, sign * 9999);
            Checks.grantAll(x, 0);
            Checks.due('-', x.reason(0, 4, 6));
            x.set(4, 6, sign);
            Checks.due('v', x.reason(0, 4, 6));
            Checks.dueThrow(UnsupportedOperationException.class, () -> x.run(0, 4, 6));
            x.set(4, 6, -sign * 9999);
            Checks.due(1, x.run(0, 4, 6));
            Checks.due(0, x.cell(4, 6));
            Checks.due(1, x.run(0, 4, 6));
            Checks.due(sign * 9999, x.cell(4, 6));
        }
    }

    // "with the values as the earlier steps leave them": out of range in between is out of range.
    static void reasonIsVAlsoIfALaterStepWouldMendIt() {
        MacroSheet x = Checks.sheetWithMacros(1);
        x.record(0, 0, 0);
        x.add(0, 0, 1);
        x.add(0, 0, -1);
        x.stop();
        Checks.grantAll(x, 0);
        x.set(2, 5, 9999);
        Checks.due('v', x.reason(0, 2, 5));
        x.set(2, 5, 9998);
        Checks.due('-', x.reason(0, 2, 5));
        Checks.due(2, x.run(0, 2, 5));
    }

    // "with the values as the earlier steps leave them": what is copied there
    static void reasonKnowsTheCopyOfEachBaseCell() {
        MacroSheet x = Checks.sheetWithMacros(1);
        x.record(0, 0, 0);
        x.copyBase(1, 1);
        x.add(1, 1, 1);
        x.stop();
        Checks.grantAll(x, 0);
        for (int column = 0; column < 5; column++) {
            for (int row = 0; row < 7; row++) {
                Checks.due('-', x.reason(0, column, row));
                x.set(column, row, 9999);
                Checks.due('v', x.reason(0, column, row));
                x.set(column, row, 9998);
                Checks.due('-', x.reason(0, column, row));
                x.undo();
                x.undo();
            }
        }
    }

    // "for the first of these reasons, all three looked at for one step after the other"
    static void theReasonOfTheEarlierStepComesFirst() {
        // At (2, 2): two rows up is a step beyond the grants, to the left a value is out of range.
        int[][] steps = {{3, -3}, {0, -2}, {-1, 0}};
        char[] reasons = {'o', 'g', 'v'};
        for (int first = 0; first < 3; first++) {
            for (int second = 0; second < 3; second++) {
                MacroSheet x = Checks.sheetWithMacros(1);
                x.record(0, 2, 4);
                x.add(2 + steps[first][0], 4 + steps[first][1], 1);
                x.add(2 + steps[second][0], 4 + steps[second][1], 1);
                x.stop();
                x.grant(0, 0, 1, 5, 7);
                x.set(1, 2, 9999);
                Checks.due(reasons[first], x.reason(0, 2, 2));
            }
        }
    }

    // 'g' and 'v' of one step: the grants come first.
    static void theGrantsOfAStepComeBeforeItsValue() {
        MacroSheet x = Checks.sheetWithMacros(1);
        Checks.recordAdd(x, 0, 0, 0, 1);
        x.set(3, 3, 9999);
        Checks.due('g', x.reason(0, 3, 3));
        x.grant(0, 3, 3, 3, 3);
        Checks.due('v', x.reason(0, 3, 3));
    }

    // "A macro without steps runs and changes nothing."
    static void aMacroWithoutStepsRunsEverywhere() {
        MacroSheet x = Checks.sheetWithMacros(1);
        for (int column = 0; column < 6; column++) {
            for (int row = 0; row < 8; row++) {
                Checks.due('-', x.reason(0, column, row));
                Checks.due(0, x.run(0, column, row));
            }
        }
        Checks.due(0, x.entries());
        Checks.dueThrow(IllegalStateException.class, x::undo);
        Checks.ruleForAll(x, 0, 9);
        Checks.due(1, x.set(5, 7, 1));
        Checks.due(0, x.skipped());
        Checks.due(0, x.entriesOf(0));
    }

    private static void addsOfWhichTheLastIsToTheRight(MacroSheet x) {
        x.addMacro();
        x.record(0, 0, 0);
        for (int i = 0; i < 9; i++) {
            x.add(0, i % 8, 1);
        }
        x.add(1, 0, 1);
        x.grant(0, 0, 0, 5, 7);
    }

    private static void dueInRange(MacroSheet x, int[] cells) {
        for (int column = 0; column < 6; column++) {
            for (int row = 0; row < 8; row++) {
                int c = column;
                int r = row;
                boolean within = c >= cells[0] && c <= cells[2] && r >= cells[1] && r <= cells[3];
                Checks.due(within ? 1 : 0, x.granted(c, r));
                Checks.due(within ? "0" : "throws.NoSuchElementException",
                        Checks.outcome(() -> x.rule(c, r)));
            }
        }
    }
}
