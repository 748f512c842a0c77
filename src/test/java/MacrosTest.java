/** Promises 7 to 15: macros, their recording, their grants and their runs by hand. */
final class MacrosTest {
    private MacrosTest() {
    }

    static void promise07AddMacroNumbersSixMacros() {
        MacroSheet x = new MacroSheet();
        for (int i = 0; i < 6; i++) {
            Checks.due(i, x.addMacro());
            Checks.due(0, x.steps(i));
            Checks.due(0, x.takeGrants(i));
            Checks.due(0, x.entriesOf(i));
        }
        Checks.dueThrow(IllegalStateException.class, x::addMacro);
        Checks.due(0, x.steps(5));
        Checks.dueThrow(IndexOutOfBoundsException.class, () -> x.steps(6));
    }

    static void promise08RecordThrowsTheStepsAway() {
        MacroSheet x = Checks.sheetWithMacros(2);
        Checks.due(0, x.record(1, 0, 0));
        x.set(0, 0, 1);
        x.set(0, 0, 2);
        x.stop();
        Checks.due(2, x.record(1, 5, 7));
        Checks.due(0, x.steps(1));
        x.set(5, 6, 3);
        Checks.due(1, x.stop());
        Checks.due("s+0-1=3", Checks.written(x, 1, 0));
    }

    static void promise08RecordLeavesTheGrants() {
        MacroSheet x = Checks.sheetWithMacros(1);
        x.grant(0, 0, 0, 1, 1);
        x.record(0, 0, 0);
        Checks.due(1, x.granted(1, 1));
        Checks.due(2, x.grant(0, 2, 2, 2, 2));
    }

    static void promise08AFailedRecordBeginsNothing() {
        MacroSheet x = Checks.sheetWithMacros(1);
        Checks.recordAdd(x, 0, 0, 0, 1);
        Checks.dueThrow(IndexOutOfBoundsException.class, () -> x.record(0, 6, 0));
        Checks.due(1, x.steps(0));
        Checks.dueThrow(IllegalStateException.class, x::stop);
    }

    static void promise08OnlyChangesByHandAreRecorded() {
        MacroSheet x = Checks.sheetWithMacros(2);
        Checks.recordAdd(x, 1, 1, 0, 4);
        Checks.grantAll(x, 1);
        x.addRule(0, 0, 0, 0, 1, 1);
        x.record(0, 0, 0);
        Checks.due(1, x.run(1, 3, 3));
        Checks.due(0, x.steps(0));
        Checks.due(2, x.set(0, 0, 5));
        Checks.due(1, x.steps(0));
        x.undo();
        Checks.due(1, x.steps(0));
        Checks.due(1, x.stop());
        Checks.due("s+0+0=5", Checks.written(x, 0, 0));
    }

    static void promise08ChangesThatAreNoneAreRecorded() {
        MacroSheet x = Checks.sheetWithMacros(1);
        x.record(0, 1, 1);
        Checks.due(0, x.set(0, 0, 0));
        Checks.due(0, x.add(2, 2, 0));
        Checks.due(0, x.copyBase(1, 1));
        Checks.due(3, x.stop());
        Checks.due("s-1-1=0", Checks.written(x, 0, 0));
        Checks.due("a+1+1=0", Checks.written(x, 0, 1));
        Checks.due("c+0+0", Checks.written(x, 0, 2));
        Checks.due(0, x.entries());
    }

    static void promise08ACallThatThrowsIsNotRecorded() {
        MacroSheet x = Checks.sheetWithMacros(1);
        x.record(0, 1, 1);
        Checks.dueThrow(IndexOutOfBoundsException.class, () -> x.set(6, 0, 0));
        Checks.dueThrow(IllegalArgumentException.class, () -> x.set(0, 0, 10000));
        Checks.dueThrow(IllegalArgumentException.class, () -> x.add(0, 0, 10000));
        Checks.dueThrow(IndexOutOfBoundsException.class, () -> x.copyBase(0, 8));
        Checks.due(0, x.stop());
    }

    static void promise08TheTenthStepEndsTheRecording() {
        MacroSheet x = Checks.sheetWithMacros(2);
        x.record(0, 0, 0);
        for (int i = 1; i <= 9; i++) {
            x.set(0, 0, i);
        }
        Checks.dueThrow(IllegalStateException.class, () -> x.record(1, 0, 0));
        x.set(0, 0, 10);
        Checks.due(10, x.steps(0));
        Checks.dueThrow(IllegalStateException.class, x::stop);
        Checks.dueThrow(IllegalStateException.class, () -> x.copyBase(0, 0));
        x.set(0, 0, 11);
        Checks.due(10, x.steps(0));
        Checks.due(10, x.record(0, 0, 0));
    }

    static void promise08TheTenthStepMayBeNoChange() {
        MacroSheet x = Checks.sheetWithMacros(1);
        x.record(0, 0, 0);
        for (int i = 0; i < 10; i++) {
            Checks.due(0, x.copyBase(0, 0));
        }
        Checks.dueThrow(IllegalStateException.class, x::stop);
        Checks.due(10, x.steps(0));
    }

    static void promise08TheRecordingLastsThroughItsLastAction() {
        MacroSheet x = Checks.sheetWithMacros(1);
        Checks.grantAll(x, 0);
        Checks.ruleForAll(x, 0, 0);
        x.record(0, 0, 0);
        for (int i = 1; i <= 10; i++) {
            Checks.due(1, x.add(0, 0, i));
        }
        Checks.due(0, x.skipped());
        Checks.due(201, x.add(0, 0, 1));
    }

    static void promise09StopEndsTheRecording() {
        MacroSheet x = Checks.sheetWithMacros(2);
        Checks.dueThrow(IllegalStateException.class, x::stop);
        x.record(1, 0, 0);
        Checks.due(0, x.stop());
        x.record(1, 0, 0);
        x.set(3, 3, 1);
        x.add(3, 3, 1);
        Checks.due(2, x.stop());
        Checks.dueThrow(IllegalStateException.class, x::stop);
        x.set(3, 3, 5);
        Checks.due(2, x.steps(1));
    }

    static void promise10StepsCountsAtAllTimes() {
        MacroSheet x = Checks.sheetWithMacros(2);
        x.record(1, 0, 0);
        for (int i = 1; i <= 4; i++) {
            x.set(i, i, 1);
            Checks.due(i, x.steps(1));
        }
        x.stop();
        Checks.due(4, x.steps(1));
        Checks.due(0, x.steps(0));
    }

    static void promise11GrantTakesFourRanges() {
        MacroSheet x = Checks.sheetWithMacros(2);
        Checks.due(1, x.grant(1, 0, 0, 0, 0));
        Checks.due(2, x.grant(1, 0, 0, 0, 0));
        Checks.due(3, x.grant(1, 0, 0, 5, 7));
        Checks.due(4, x.grant(1, 5, 7, 5, 7));
        Checks.dueThrow(IllegalStateException.class, () -> x.grant(1, 0, 0, 0, 0));
        Checks.due(1, x.grant(0, 0, 0, 0, 0));
        Checks.due(4, x.takeGrants(1));
    }

    static void promise12TakeGrantsTakesAll() {
        MacroSheet x = Checks.sheetWithMacros(2);
        x.grant(0, 0, 0, 1, 1);
        x.grant(0, 0, 0, 5, 7);
        x.grant(1, 0, 0, 0, 0);
        Checks.due(2, x.takeGrants(0));
        Checks.due(0, x.takeGrants(0));
        Checks.due(1, x.granted(0, 0));
        Checks.due(0, x.granted(1, 1));
        Checks.due(1, x.grant(0, 0, 0, 1, 1));
        Checks.due(1, x.takeGrants(1));
    }

    static void promise13GrantedCountsMacrosNotGrants() {
        MacroSheet x = Checks.sheetWithMacros(6);
        x.grant(0, 1, 2, 3, 4);
        x.grant(0, 1, 2, 3, 4);
        x.grant(5, 3, 4, 5, 7);
        Checks.due(1, x.granted(1, 2));
        Checks.due(2, x.granted(3, 4));
        Checks.due(1, x.granted(5, 7));
        Checks.due(1, x.granted(3, 2));
        Checks.due(1, x.granted(1, 4));
        Checks.due(0, x.granted(0, 2));
        Checks.due(0, x.granted(1, 1));
        Checks.due(0, x.granted(4, 3));
        Checks.due(1, x.granted(3, 5));
        Checks.due(0, x.granted(2, 5));
        for (int macro = 0; macro < 6; macro++) {
            x.grant(macro, 0, 0, 0, 0);
        }
        Checks.due(6, x.granted(0, 0));
    }

    static void promise14ReasonTellsWhyAMacroCannotRun() {
        MacroSheet x = Checks.sheetWithMacros(1);
        Checks.due('-', x.reason(0, 0, 0));
        Checks.recordAdd(x, 0, 1, -1, 9999);
        Checks.due('o', x.reason(0, 5, 5));
        Checks.due('o', x.reason(0, 0, 0));
        Checks.due('g', x.reason(0, 0, 1));
        x.grant(0, 1, 0, 1, 0);
        Checks.due('-', x.reason(0, 0, 1));
        Checks.due('g', x.reason(0, 1, 1));
        x.set(1, 0, 1);
        Checks.due('v', x.reason(0, 0, 1));
        x.takeGrants(0);
        Checks.due('g', x.reason(0, 0, 1));
    }

    static void promise14ReasonKnowsBothEndsOfTheValues() {
        MacroSheet x = Checks.sheetWithMacros(2);
        Checks.recordAdd(x, 0, 0, 0, -5);
        Checks.recordAdd(x, 1, 0, 0, 5);
        Checks.grantAll(x, 0);
        Checks.grantAll(x, 1);
        x.set(0, 0, -9994);
        Checks.due('-', x.reason(0, 0, 0));
        x.set(0, 0, -9995);
        Checks.due('v', x.reason(0, 0, 0));
        x.set(0, 0, 9994);
        Checks.due('-', x.reason(1, 0, 0));
        x.set(0, 0, 9995);
        Checks.due('v', x.reason(1, 0, 0));
    }

    static void promise14ReasonLooksAtOneStepAfterTheOther() {
        MacroSheet x = Checks.sheetWithMacros(1);
        x.record(0, 2, 2);
        x.add(2, 2, 9999);
        x.add(3, 2, 1);
        x.add(2, 1, 1);
        x.stop();
        x.grant(0, 2, 2, 2, 7);
        Checks.due('v', x.reason(0, 2, 2));
        x.set(2, 2, 0);
        Checks.due('g', x.reason(0, 2, 2));
        x.grant(0, 0, 0, 5, 7);
        Checks.due('-', x.reason(0, 2, 2));
        Checks.due('o', x.reason(0, 5, 2));
        Checks.due('o', x.reason(0, 2, 0));
        x.set(2, 0, 1);
        Checks.due('v', x.reason(0, 2, 0));
    }

    static void promise14ReasonSeesTheValuesOfEarlierSteps() {
        MacroSheet x = Checks.sheetWithMacros(1);
        x.record(0, 0, 0);
        x.add(0, 0, 4000);
        x.undo();
        x.add(0, 0, 4000);
        x.undo();
        x.stop();
        Checks.grantAll(x, 0);
        x.set(0, 0, 1999);
        Checks.due('-', x.reason(0, 0, 0));
        x.set(0, 0, 2000);
        Checks.due('v', x.reason(0, 0, 0));
        Checks.due(2000, x.cell(0, 0));
        x.record(0, 0, 0);
        x.set(0, 0, 0);
        x.add(0, 0, 9999);
        x.stop();
        Checks.due('-', x.reason(0, 0, 0));
    }

    static void promise14ReasonSeesTheBaseCellAsItIsByThen() {
        MacroSheet x = Checks.sheetWithMacros(1);
        x.record(0, 0, 0);
        x.set(0, 0, 6000);
        x.copyBase(2, 0);
        x.add(2, 0, 3999);
        x.stop();
        Checks.grantAll(x, 0);
        x.set(3, 3, 9000);
        Checks.due('-', x.reason(0, 3, 3));
        Checks.due(3, x.run(0, 3, 3));
        Checks.due(9999, x.cell(5, 3));
        x.record(0, 0, 0);
        x.copyBase(1, 0);
        x.set(1, 0, 0);
        x.add(1, 0, 9999);
        x.stop();
        x.set(3, 3, 1);
        Checks.due('-', x.reason(0, 3, 3));
    }

    static void promise14ReasonAsksGrantsAlsoForStepsThatChangeNothing() {
        MacroSheet x = Checks.sheetWithMacros(1);
        x.record(0, 0, 0);
        x.set(1, 0, 0);
        x.stop();
        Checks.due('g', x.reason(0, 0, 0));
        Checks.due('o', x.reason(0, 5, 0));
    }

    static void promise14ReasonAnswersForTheRecordedMacroToo() {
        MacroSheet x = Checks.sheetWithMacros(1);
        x.record(0, 0, 0);
        Checks.due('-', x.reason(0, 0, 0));
        x.set(0, 0, 1);
        Checks.due('g', x.reason(0, 0, 0));
    }

    static void promise15RunMakesTheStepsRelativeToTheCell() {
        MacroSheet x = Checks.sheetWithMacros(1);
        x.record(0, 2, 3);
        x.set(3, 3, 7);
        x.add(2, 1, -4);
        x.copyBase(1, 4);
        x.copyBase(3, 4);
        x.stop();
        Checks.grantAll(x, 0);
        x.set(4, 5, 100);
        Checks.due(4, x.run(0, 4, 5));
        Checks.due(7, x.cell(5, 5));
        Checks.due(-4, x.cell(4, 3));
        Checks.due(100, x.cell(3, 6));
        Checks.due(100, x.cell(5, 6));
        Checks.due(4, x.entriesOf(0));
        Checks.due(1, x.run(0, 4, 5));
    }

    static void promise15RunUsesTheBaseCellAsItIsByThen() {
        MacroSheet x = Checks.sheetWithMacros(1);
        x.record(0, 0, 0);
        x.copyBase(1, 0);
        x.add(0, 0, 5);
        x.copyBase(2, 0);
        x.stop();
        Checks.grantAll(x, 0);
        x.set(0, 4, 1);
        Checks.due(3, x.run(0, 0, 4));
        Checks.due(1, x.cell(1, 4));
        Checks.due(6, x.cell(0, 4));
        Checks.due(6, x.cell(2, 4));
    }

    static void promise15RunMakesAllStepsOrNone() {
        MacroSheet x = Checks.sheetWithMacros(1);
        x.record(0, 0, 0);
        x.set(0, 0, 1);
        x.set(1, 0, 2);
        x.stop();
        x.undo();
        x.undo();
        Checks.grantAll(x, 0);
        Checks.dueThrow(UnsupportedOperationException.class, () -> x.run(0, 5, 5));
        Checks.due(0, x.cell(5, 5));
        Checks.due(0, x.skipped());
        Checks.dueThrow(IllegalStateException.class, x::undo);
    }

    static void promise15RunStaysInTheGrants() {
        MacroSheet x = Checks.sheetWithMacros(2);
        Checks.recordAdd(x, 0, 0, 0, 1);
        Checks.grantAll(x, 1);
        x.grant(0, 1, 1, 2, 2);
        x.grant(0, 4, 4, 4, 4);
        for (int column = 0; column < 6; column++) {
            for (int row = 0; row < 8; row++) {
                int c = column;
                int r = row;
                boolean within = c >= 1 && c <= 2 && r >= 1 && r <= 2 || c == 4 && r == 4;
                if (within) {
                    Checks.due(1, x.run(0, c, r));
                } else {
                    Checks.dueThrow(UnsupportedOperationException.class, () -> x.run(0, c, r));
                }
            }
        }
        Checks.due(5, x.entries());
    }

    static void promise15RunCountsOnlyChanges() {
        MacroSheet x = Checks.sheetWithMacros(2);
        Checks.due(0, x.run(0, 0, 0));
        x.record(1, 0, 0);
        x.set(0, 0, 3);
        x.set(0, 0, 3);
        x.stop();
        Checks.grantAll(x, 1);
        Checks.due(0, x.run(1, 0, 0));
        Checks.due(1, x.run(1, 1, 0));
        Checks.due(2, x.entries());
        Checks.due(1, x.undo());
        Checks.due(1, x.undo());
        Checks.dueThrow(IllegalStateException.class, x::undo);
    }

    static void promise15AMacroOfTenStepsMakesTenChanges() {
        MacroSheet x = Checks.sheetWithMacros(1);
        x.record(0, 0, 0);
        for (int i = 0; i < 10; i++) {
            x.add(0, 0, i % 2 == 0 ? 1 : -1);
        }
        Checks.grantAll(x, 0);
        Checks.due(10, x.run(0, 5, 7));
        Checks.due(0, x.cell(5, 7));
        Checks.due(10, x.undo());
    }
}
