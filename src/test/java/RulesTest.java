import java.util.NoSuchElementException;

/** Promises 16 to 19: rules, which macros they run in an action, and which they skip. */
final class RulesTest {
    private RulesTest() {
    }

    static void promise16AddRuleNumbersSixRules() {
        MacroSheet x = Checks.sheetWithMacros(1);
        for (int i = 0; i < 6; i++) {
            Checks.due(i, x.addRule(0, 0, 5, 7, 0, i));
        }
        Checks.dueThrow(IllegalStateException.class, () -> x.addRule(0, 0, 5, 7, 0, 9));
        Checks.due(5, x.rule(0, 0));
    }

    static void promise16ARuleRunsTheStepsAndGrantsThatItsMacroHasByThen() {
        MacroSheet x = Checks.sheetWithMacros(1);
        x.addRule(0, 0, 0, 0, 0, 0);
        Checks.due(1, x.set(0, 0, 1));
        Checks.recordAdd(x, 0, 1, 0, 1);
        Checks.due(1, x.set(0, 0, 2));
        Checks.due(1, x.skipped());
        Checks.grantAll(x, 0);
        Checks.due(2, x.set(0, 0, 3));
        Checks.recordAdd(x, 0, 0, 1, 4);
        Checks.due(2, x.set(0, 0, 4));
        Checks.due(1, x.cell(1, 0));
        Checks.due(4, x.cell(0, 1));
        x.takeGrants(0);
        Checks.due(1, x.set(0, 0, 5));
        Checks.due(2, x.skipped());
    }

    static void promise17SetRankReturnsTheRankBefore() {
        MacroSheet x = Checks.sheetWithMacros(1);
        Checks.ruleForAll(x, 0, 3);
        Checks.ruleForAll(x, 0, 4);
        Checks.due(1, x.rule(0, 0));
        Checks.due(3, x.setRank(0, 9));
        Checks.due(0, x.rule(0, 0));
        Checks.due(9, x.setRank(0, 0));
        Checks.due(1, x.rule(0, 0));
        Checks.due(0, x.setRank(0, 0));
        Checks.due(4, x.setRank(1, 4));
    }

    static void promise18RuleTakesTheGreatestRankAndThenTheLowestNumber() {
        MacroSheet x = Checks.sheetWithMacros(1);
        x.addRule(0, 0, 2, 2, 0, 0);
        x.addRule(1, 1, 3, 3, 0, 5);
        x.addRule(1, 1, 3, 3, 0, 5);
        x.addRule(2, 2, 4, 4, 0, 9);
        Checks.due(0, x.rule(0, 0));
        Checks.due(1, x.rule(1, 1));
        Checks.due(3, x.rule(2, 2));
        Checks.due(3, x.rule(4, 4));
        Checks.due(1, x.rule(3, 1));
        x.setRank(1, 4);
        Checks.due(2, x.rule(1, 1));
        x.setRank(0, 5);
        Checks.due(0, x.rule(1, 1));
        Checks.dueThrow(NoSuchElementException.class, () -> x.rule(0, 3));
        Checks.dueThrow(NoSuchElementException.class, () -> x.rule(4, 1));
    }

    static void promise18ARuleRunsOnlyTheOneForTheCell() {
        MacroSheet x = Checks.sheetWithMacros(2);
        Checks.recordAdd(x, 0, 1, 0, 1);
        Checks.recordAdd(x, 1, 0, 1, 1);
        Checks.grantAll(x, 0);
        Checks.grantAll(x, 1);
        x.addRule(0, 0, 0, 0, 0, 3);
        x.addRule(0, 0, 0, 0, 1, 4);
        Checks.due(2, x.set(0, 0, 5));
        Checks.due(0, x.cell(1, 0));
        Checks.due(1, x.cell(0, 1));
        Checks.due(1, x.lastBy(0, 1));
        x.setRank(0, 4);
        Checks.due(2, x.set(0, 0, 6));
        Checks.due(1, x.cell(1, 0));
        Checks.due(1, x.cell(0, 1));
    }

    static void promise18ARuleIsForChangesOnly() {
        MacroSheet x = Checks.sheetWithMacros(1);
        Checks.recordAdd(x, 0, 1, 0, 1);
        Checks.grantAll(x, 0);
        x.addRule(0, 0, 0, 0, 0, 0);
        Checks.due(0, x.set(0, 0, 0));
        Checks.due(0, x.add(0, 0, 0));
        Checks.due(1, x.set(0, 1, 4));
        Checks.due(2, x.set(0, 0, 4));
    }

    static void promise18ChangesHaveADepthOfThreeAtMost() {
        MacroSheet x = Checks.sheetWithMacros(1);
        Checks.recordAdd(x, 0, 0, 1, 1);
        Checks.grantAll(x, 0);
        Checks.ruleForAll(x, 0, 0);
        Checks.due(4, x.set(0, 0, 1));
        Checks.due(1, x.cell(0, 3));
        Checks.due(0, x.cell(0, 4));
        Checks.due(4, x.run(0, 1, 0));
        Checks.due(1, x.cell(1, 4));
        Checks.due(0, x.cell(1, 5));
        Checks.due(0, x.skipped());
    }

    static void promise18TheFirstChangeInTheQueueIsTakenOutFirst() {
        MacroSheet x = Checks.sheetWithMacros(3);
        x.record(0, 0, 0);
        x.set(1, 0, 1);
        x.set(2, 0, 1);
        x.stop();
        x.undo();
        x.undo();
        recordSet(x, 1, 1, 5, 3);
        recordSet(x, 2, 2, 5, 4);
        Checks.grantAll(x, 0);
        x.addRule(1, 0, 1, 0, 1, 0);
        x.addRule(2, 0, 2, 0, 2, 0);
        Checks.due(4, x.run(0, 0, 0));
        Checks.due(4, x.cell(5, 0));
        Checks.due(2, x.lastBy(5, 0));
    }

    static void promise18ChangesOfARuleWaitBehindThoseThatWaitAlready() {
        MacroSheet x = Checks.sheetWithMacros(4);
        x.record(0, 0, 0);
        x.set(1, 0, 1);
        x.set(2, 0, 1);
        x.stop();
        x.undo();
        x.undo();
        recordSet(x, 1, 1, 3, 1);
        recordSet(x, 2, 2, 5, 2);
        recordSet(x, 3, 3, 5, 3);
        Checks.grantAll(x, 0);
        x.addRule(1, 0, 1, 0, 1, 0);
        x.addRule(2, 0, 2, 0, 2, 0);
        x.addRule(3, 0, 3, 0, 3, 0);
        // The rule for (3, 0) runs last, as its change was made behind that of (2, 0).
        Checks.due(5, x.run(0, 0, 0));
        Checks.due(3, x.cell(5, 0));
        Checks.due(3, x.lastBy(5, 0));
    }

    static void promise18ARuleSeesTheCellsAsTheyAreByThen() {
        MacroSheet x = Checks.sheetWithMacros(2);
        x.record(0, 0, 0);
        x.set(0, 0, 5);
        x.set(0, 0, 6);
        x.stop();
        x.undo();
        x.undo();
        x.record(1, 0, 0);
        x.copyBase(1, 0);
        x.stop();
        Checks.grantAll(x, 0);
        Checks.grantAll(x, 1);
        x.addRule(0, 0, 0, 7, 1, 0);
        // Both changes of (0, 0) run the macro, and both find 6 there: the second copies nothing.
        Checks.due(3, x.run(0, 0, 0));
        Checks.due(6, x.cell(1, 0));
        Checks.due(1, x.entriesOf(1));
    }

    static void promise18TwentyMacrosAreRunByRulesInAnAction() {
        MacroSheet x = Checks.sheetWithMacros(2);
        recordTenAdds(x, 0);
        Checks.grantAll(x, 0);
        x.addRule(0, 0, 0, 0, 0, 0);
        Checks.due(201, x.set(0, 0, 5));
        Checks.due(210, x.run(0, 0, 0));
        Checks.due(10, x.run(0, 1, 0));
        Checks.due(0, x.skipped());
        Checks.due(10, x.undo());
        Checks.due(210, x.undo());
        Checks.due(201, x.undo());
        Checks.due(0, x.cell(0, 0));
        Checks.due(2, x.entries());
    }

    static void promise18ARunThatChangesNothingCountsAmongTheTwenty() {
        for (int stepsOfTheOther = 0; stepsOfTheOther <= 1; stepsOfTheOther++) {
            MacroSheet x = Checks.sheetWithMacros(2);
            recordOneAndNine(x, 0);
            Checks.grantAll(x, 0);
            Checks.grantAll(x, 1);
            x.record(1, 0, 0);
            for (int i = 0; i < stepsOfTheOther; i++) {
                x.copyBase(0, 0);
            }
            x.stop();
            x.addRule(0, 0, 0, 0, 0, 0);
            x.addRule(0, 1, 0, 1, 1, 0);
            // Macro 0 and nine times macro 1 at the depth 0 and at the depth 1: 20 runs in all.
            Checks.due(30, x.run(0, 0, 0));
            Checks.due(0, x.skipped());
        }
    }

    static void promise18ChangesThatRunNothingDoNotCountAmongTheTwenty() {
        MacroSheet x = Checks.sheetWithMacros(2);
        recordOneAndNine(x, 0);
        Checks.grantAll(x, 0);
        x.addRule(0, 0, 0, 0, 0, 0);
        // No rule is for (0, 1): three times macro 0 by the rule.
        Checks.due(40, x.run(0, 0, 0));
        x.addRule(0, 1, 0, 1, 1, 0);
        x.record(1, 0, 0);
        // Now there is one, but its macro is recorded.
        Checks.due(40, x.run(0, 0, 0));
        Checks.due(0, x.skipped());
        x.stop();
        Checks.due(30, x.run(0, 0, 0));
    }

    static void promise19OneThatIsSkippedDoesNotCountAmongTheTwenty() {
        MacroSheet x = Checks.sheetWithMacros(2);
        recordOneAndNine(x, 0);
        recordTenAdds(x, 1);
        Checks.grantAll(x, 0);
        x.addRule(0, 0, 0, 0, 0, 0);
        x.addRule(0, 1, 0, 1, 1, 0);
        // Macro 0 once and macro 1 nine times skipped, at each of the depths 0, 1 and 2.
        Checks.due(40, x.run(0, 0, 0));
        Checks.due(27, x.skipped());
        Checks.due(40, x.undo());
        Checks.due(27, x.skipped());
    }

    static void promise19MoreThanTwentyAreSkipped() {
        MacroSheet x = Checks.sheetWithMacros(2);
        recordTenAdds(x, 0);
        Checks.grantAll(x, 0);
        x.addRule(1, 0, 1, 0, 1, 0);
        Checks.recordAdd(x, 1, 0, 0, 1);
        for (int i = 1; i <= 5; i++) {
            Checks.due(10, x.run(0, 1, 0));
            Checks.due(10 * i, x.skipped());
        }
    }

    static void promise19SkippedCountsEachReason() {
        MacroSheet x = Checks.sheetWithMacros(1);
        Checks.recordAdd(x, 0, 1, 0, 5);
        Checks.ruleForAll(x, 0, 0);
        Checks.due(1, x.set(5, 0, 1));
        Checks.due(1, x.skipped());
        Checks.due(1, x.set(0, 0, 1));
        Checks.due(2, x.skipped());
        x.set(1, 0, 9999);
        Checks.due(3, x.skipped());
        x.grant(0, 1, 0, 1, 0);
        Checks.due(1, x.set(0, 0, 2));
        Checks.due(4, x.skipped());
        x.undo();
        x.undo();
        Checks.due(4, x.skipped());
    }

    static void promise19NothingElseCountsAsSkipped() {
        MacroSheet x = Checks.sheetWithMacros(2);
        x.addRule(0, 0, 0, 7, 0, 0);
        x.record(0, 0, 0);
        Checks.due(1, x.set(0, 0, 1));
        Checks.due('g', x.reason(0, 0, 0));
        Checks.due(1, x.set(0, 1, 1));
        x.stop();
        Checks.due(0, x.skipped());
        Checks.dueThrow(UnsupportedOperationException.class, () -> x.run(0, 0, 0));
        Checks.due(0, x.skipped());
        x.set(5, 5, 1);
        Checks.due(0, x.skipped());
        Checks.due(1, x.set(0, 2, 1));
        Checks.due(1, x.skipped());
    }

    static void promise19DepthThreeIsNotSkipped() {
        MacroSheet x = Checks.sheetWithMacros(2);
        Checks.recordAdd(x, 0, 0, 1, 1);
        Checks.recordAdd(x, 1, 0, 1, 1);
        Checks.grantAll(x, 0);
        Checks.ruleForAll(x, 0, 0);
        x.addRule(0, 3, 0, 3, 1, 1);
        Checks.due(4, x.set(0, 0, 1));
        Checks.due(0, x.skipped());
        Checks.due(3, x.set(0, 1, 5));
        Checks.due(1, x.skipped());
    }

    /** Records one step that sets a cell of the row 0, and grants all to the macro. */
    private static void recordSet(MacroSheet x, int macro, int base, int column, int value) {
        x.record(macro, base, 0);
        x.set(column, 0, value);
        x.stop();
        x.undo();
        Checks.grantAll(x, macro);
    }

    /** Records ten steps that leave the cell as it was, each of them a change. */
    private static void recordTenAdds(MacroSheet x, int macro) {
        x.record(macro, 0, 0);
        for (int i = 0; i < 10; i++) {
            Checks.due(1, x.add(0, 0, i % 2 == 0 ? 1 : -1));
        }
        undoAll(x);
    }

    /** Records a step that changes the cell, and nine ones that change the cell below it. */
    private static void recordOneAndNine(MacroSheet x, int macro) {
        x.record(macro, 0, 0);
        Checks.due(1, x.add(0, 0, 1));
        for (int i = 0; i < 9; i++) {
            Checks.due(1, x.add(0, 1, i % 2 == 0 ? 1 : -1));
        }
        undoAll(x);
    }

    private static void undoAll(MacroSheet x) {
        for (int i = 0; i < 8; i++) {
            x.undo();
        }
    }
}
