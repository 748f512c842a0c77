import java.util.Arrays;
import java.util.NoSuchElementException;

/**
 * The sentences of "Terms" on rules, actions and the audit that name a boundary, each of them above
 * its tests; and what methods return where there is nothing.
 */
final class ActionTermsTest {
    private ActionTermsTest() {
    }

    // ---- rules

    // "At most 6 rules are numbered from 0"
    static void rulesAreNumberedFrom0To5() {
        MacroSheet x = Checks.sheetWithMacros(1);
        for (int i = 0; i <= 5; i++) {
            int count = i;
            Checks.dueThrow(IndexOutOfBoundsException.class, () -> x.setRank(count, 0));
            Checks.due(i, x.addRule(i, i, i, i, 0, i));
            Checks.due(i, x.rule(i, i));
            Checks.due(i, x.setRank(i, i));
        }
        Checks.dueThrow(IllegalStateException.class, () -> x.addRule(0, 7, 0, 7, 0, 0));
        Checks.dueThrow(NoSuchElementException.class, () -> x.rule(0, 7));
        Checks.dueThrow(IndexOutOfBoundsException.class, () -> x.setRank(6, 0));
    }

    // "a rank from 0 to 9"
    static void eachRankFrom0To9IsGreaterThanThoseBelow() {
        for (int rank = 1; rank <= 9; rank++) {
            MacroSheet x = Checks.sheetWithMacros(1);
            Checks.ruleForAll(x, 0, rank - 1);
            Checks.due(0, x.rule(5, 7));
            Checks.ruleForAll(x, 0, rank);
            Checks.due(1, x.rule(5, 7));
            Checks.due(rank - 1, x.setRank(0, rank));
            Checks.due(0, x.rule(5, 7));
            Checks.due(rank, x.setRank(0, rank - 1));
            Checks.due(1, x.rule(5, 7));
        }
    }

    // "of those in whose ranges it lies": a greater rank elsewhere does not count.
    static void aRuleCountsOnlyInItsRange() {
        MacroSheet x = Checks.sheetWithMacros(1);
        x.addRule(2, 2, 3, 4, 0, 9);
        Checks.ruleForAll(x, 0, 0);
        for (int column = 0; column < 6; column++) {
            for (int row = 0; row < 8; row++) {
                boolean within = column >= 2 && column <= 3 && row >= 2 && row <= 4;
                Checks.due(within ? 0 : 1, x.rule(column, row));
            }
        }
    }

    // "of several, the one with the lowest number"
    static void ofSixRulesWithTheSameRankTheLowestNumberCounts() {
        MacroSheet x = Checks.sheetWithMacros(1);
        for (int i = 0; i < 6; i++) {
            Checks.ruleForAll(x, 0, 4);
            Checks.due(0, x.rule(3, 3));
        }
        for (int i = 0; i < 5; i++) {
            Checks.due(i, x.rule(3, 3));
            x.setRank(i, 3);
            Checks.due(i + 1, x.rule(3, 3));
        }
        x.setRank(5, 3);
        Checks.due(0, x.rule(3, 3));
    }

    // ---- actions

    // "an action has the depth 0, and so have its changes", and "its depth is less than 3"
    static void changesOfTheDepth2RunRulesAndThoseOfTheDepth3DoNot() {
        MacroSheet x = Checks.sheetWithMacros(1);
        Checks.recordAdd(x, 0, 0, 1, 1);
        Checks.grantAll(x, 0);
        Checks.ruleForAll(x, 0, 0);
        Checks.due(4, x.add(0, 0, 1));
        Checks.due(0, x.lastBy(0, 3));
        Checks.dueThrow(NoSuchElementException.class, () -> x.lastBy(0, 4));
        // The changes of a macro that is run by hand have the depth 0 as well.
        Checks.due(4, x.run(0, 1, 0));
        Checks.due(0, x.lastBy(1, 4));
        Checks.dueThrow(NoSuchElementException.class, () -> x.lastBy(1, 5));
        Checks.due(0, x.skipped());
    }

    // "its changes have a depth that is 1 greater" than that of the change, not of all before it
    static void eachChangeHasADepthOfItsOwn() {
        MacroSheet x = Checks.sheetWithMacros(2);
        Checks.recordAdd(x, 0, 0, 1, 1);
        x.record(1, 0, 0);
        x.add(0, 0, 1);
        x.add(1, 0, 1);
        x.add(2, 0, 1);
        x.stop();
        undoAll(x);
        Checks.grantAll(x, 0);
        Checks.grantAll(x, 1);
        Checks.ruleForAll(x, 0, 0);
        // Three changes of the depth 0, behind each of them one of the depths 1, 2 and 3.
        Checks.due(12, x.run(1, 0, 0));
        for (int column = 0; column < 3; column++) {
            Checks.due(1, x.cell(column, 3));
            Checks.due(0, x.cell(column, 4));
        }
    }

    // "the macro of the rule is not recorded": no other rule stands in for it.
    static void ifTheMacroOfTheRuleIsRecordedNoOtherRuleIsAsked() {
        MacroSheet x = Checks.sheetWithMacros(2);
        Checks.recordAdd(x, 1, 1, 0, 1);
        Checks.grantAll(x, 1);
        x.addRule(0, 0, 0, 0, 0, 5);
        x.addRule(0, 0, 0, 0, 1, 4);
        x.record(0, 0, 0);
        Checks.due(1, x.set(0, 0, 1));
        Checks.due(0, x.cell(1, 0));
        Checks.due(0, x.skipped());
        x.setRank(0, 3);
        Checks.due(2, x.set(0, 0, 2));
        Checks.due(1, x.cell(1, 0));
    }

    // "if it cannot run for one of the reasons above, it is skipped": no other rule stands in.
    static void ifTheMacroOfTheRuleIsSkippedNoOtherRuleIsAsked() {
        MacroSheet x = Checks.sheetWithMacros(2);
        Checks.recordAdd(x, 0, -1, 0, 1);
        Checks.recordAdd(x, 1, 1, 0, 1);
        Checks.grantAll(x, 1);
        x.addRule(0, 0, 0, 0, 0, 5);
        x.addRule(0, 0, 0, 0, 1, 5);
        Checks.due(1, x.set(0, 0, 1));
        Checks.due(0, x.cell(1, 0));
        Checks.due(1, x.skipped());
        x.setRank(1, 6);
        Checks.due(2, x.set(0, 0, 2));
        Checks.due(1, x.skipped());
    }

    // "The recording ends behind the action": in the action of the 10th step the macro is recorded.
    static void theMacroIsRecordedThroughoutTheActionOfItsTenthStep() {
        MacroSheet x = Checks.sheetWithMacros(2);
        Checks.recordAdd(x, 1, 0, 1, 1);
        Checks.grantAll(x, 0);
        Checks.grantAll(x, 1);
        x.addRule(0, 0, 0, 0, 1, 0);
        x.addRule(0, 1, 0, 1, 0, 0);
        x.record(0, 2, 2);
        for (int i = 1; i <= 9; i++) {
            x.set(2, 2, i);
        }
        // Its step is the 10th; the rule runs macro 1, whose change would run macro 0.
        Checks.due(2, x.set(0, 0, 1));
        Checks.due(10, x.steps(0));
        Checks.due(0, x.skipped());
        // Now it is recorded no longer, but cannot run there: its last step is beyond the sheet.
        Checks.due(2, x.set(0, 0, 2));
        Checks.due(1, x.skipped());
    }

    // "fewer than 20 macros were run by rules in this action": the 20th runs, a 21st does not.
    static void theTwentiethRunIsMadeAndNoMore() {
        for (int first = 1; first <= 2; first++) {
            for (int second = 7; second <= 8; second++) {
                for (int steps = 1; steps <= 10; steps++) {
                    dueAtMostTwentyRuns(first, second, steps);
                }
            }
        }
    }

    /**
     * Each change of (0, 0) runs macro 1, which changes (0, 1) as often as it has steps; each
     * change of (0, 1) runs macro 2, which changes (0, 3). No rule is for (0, 3).
     */
    private static void dueAtMostTwentyRuns(int first, int second, int steps) {
        MacroSheet x = Checks.sheetWithMacros(3);
        recordAdds(x, 0, 0, rows(0, first, 1, second));
        recordAdds(x, 1, 0, rows(1, steps, 1, 0));
        recordAdds(x, 2, 1, 3);
        grantAllToAll(x, 3);
        x.addRule(0, 0, 0, 0, 1, 0);
        x.addRule(0, 1, 0, 1, 2, 0);
        int runs = Math.min(20, first + second + first * steps);
        Checks.due(first + second + first * steps + (runs - first), x.run(0, 0, 0));
        Checks.due(runs - first, x.entriesOf(2));
        Checks.due(runs - first, x.cell(0, 3));
        Checks.due(0, x.skipped());
    }

    // "in this action": the next one counts anew, and a run by hand is not by a rule.
    static void eachActionHasTwentyRunsOfItsOwn() {
        MacroSheet x = Checks.sheetWithMacros(1);
        recordAdds(x, 0, 0, rows(0, 10, 1, 0));
        Checks.grantAll(x, 0);
        Checks.ruleForAll(x, 0, 0);
        for (int i = 0; i < 3; i++) {
            Checks.due(210, x.run(0, 0, 0));
            Checks.due(201, x.add(5, 5, 1));
        }
        Checks.due(0, x.skipped());
    }

    // "otherwise nothing counts as skipped": behind the 20th run a macro that cannot run is none.
    static void behindTheTwentiethRunNothingIsSkipped() {
        MacroSheet x = Checks.sheetWithMacros(2);
        recordAdds(x, 0, 0, rows(0, 9, 1, 1));
        Checks.recordAdd(x, 1, 0, 0, 1);
        Checks.grantAll(x, 0);
        x.addRule(0, 0, 0, 0, 0, 0);
        x.addRule(0, 1, 0, 1, 1, 0);
        // 9 runs and a skip at the depth 0, 9 runs and a skip at the depth 1, and then 2 runs.
        Checks.due(210, x.run(0, 0, 0));
        Checks.due(2, x.skipped());
    }

    // "A run that changes nothing counts among the 20"
    static void runsThatChangeNothingLeaveNoRoomForTheOthers() {
        for (int nothing = 0; nothing <= 8; nothing++) {
            MacroSheet x = sheetWithOneRunBehind(nothing);
            x.run(0, 0, 0);
            // Of them, 19 at the most leave room for one run more.
            Checks.due(nothing + 12 <= 19 ? 1 : 0, x.entriesOf(2));
            Checks.due(0, x.entriesOf(1));
            Checks.due(0, x.skipped());
        }
    }

    // ".. one that is skipped does not."
    static void skippedMacrosLeaveRoomForTheOthers() {
        for (int nothing = 0; nothing <= 8; nothing++) {
            MacroSheet x = sheetWithOneRunBehind(nothing);
            Checks.recordAdd(x, 1, 0, 0, 1);
            x.run(0, 0, 0);
            Checks.due(1, x.entriesOf(2));
            Checks.due(0, x.entriesOf(1));
            Checks.due(nothing + 10, x.skipped());
        }
    }

    // ".. one that is skipped does not": skips beside the runs leave room for twenty of these.
    static void besideSkippedMacrosThereAreTwentyRuns() {
        MacroSheet x = Checks.sheetWithMacros(2);
        recordAdds(x, 0, 0, 1, 0, 1, 0, 1, 0, 1, 0, 1, 0);
        Checks.recordAdd(x, 1, 0, 0, 1);
        Checks.grantAll(x, 0);
        x.addRule(0, 0, 0, 0, 0, 0);
        x.addRule(0, 1, 0, 1, 1, 0);
        // 5 runs at the depth 0 and 15 at the depth 1, and a skip ahead of each of them.
        Checks.due(210, x.run(0, 0, 0));
        Checks.due(20, x.skipped());
        // Neither the runs nor the skips of an action count in the next one.
        Checks.due(210, x.run(0, 0, 0));
        Checks.due(40, x.skipped());
    }

    /**
     * A run of macro 0 runs macros 3 and 4 once and macro 1, which is empty and has no grants, ten
     * times and some more; behind all these a change waits that would run macro 2.
     */
    private static MacroSheet sheetWithOneRunBehind(int more) {
        MacroSheet x = Checks.sheetWithMacros(5);
        int[] rows = new int[more + 2];
        Arrays.fill(rows, 1);
        rows[0] = 3;
        rows[more + 1] = 4;
        recordAdds(x, 0, 0, rows);
        recordAdds(x, 2, 0, 5);
        recordAdds(x, 3, 3, rows(1, 10, 1, 0));
        recordAdds(x, 4, 4, 0);
        Checks.grantAll(x, 0);
        for (int macro = 2; macro <= 4; macro++) {
            Checks.grantAll(x, macro);
        }
        x.addRule(0, 1, 0, 1, 1, 0);
        x.addRule(0, 0, 0, 0, 2, 0);
        x.addRule(0, 3, 0, 3, 3, 0);
        x.addRule(0, 4, 0, 4, 4, 0);
        return x;
    }

    // ---- audit

    // "The audit has an entry for each change": none, one, and ten of one cell
    static void eachChangeOfOneCellHasAnEntry() {
        MacroSheet x = Checks.sheetWithMacros(1);
        recordAdds(x, 0, 0, rows(0, 10, 1, 0));
        Checks.grantAll(x, 0);
        int before = x.entries();
        Checks.due(0, x.set(0, 0, x.cell(0, 0)));
        Checks.due(before, x.entries());
        Checks.due(1, x.add(0, 0, 1));
        Checks.due(before + 1, x.entries());
        Checks.due(10, x.run(0, 3, 3));
        Checks.due(before + 11, x.entries());
        Checks.due(10, x.entriesOf(0));
    }

    // "At most the latest 8 actions that made a change or more can be undone"
    static void asManyActionsAsWereMadeAndAtMostEightAreUndone() {
        for (int actions = 0; actions <= 10; actions++) {
            MacroSheet x = new MacroSheet();
            for (int i = 1; i <= actions; i++) {
                x.set(4, 6, i);
            }
            for (int i = 1; i <= Math.min(8, actions); i++) {
                Checks.due(1, x.undo());
                Checks.due(actions - i, x.cell(4, 6));
                Checks.due(actions - i, x.cellByAudit(4, 6));
                Checks.due(actions - i, x.entries());
            }
            Checks.dueThrow(IllegalStateException.class, x::undo);
            Checks.due(Math.max(0, actions - 8), x.cell(4, 6));
            Checks.due(Math.max(0, actions - 8), x.entries());
        }
    }

    // "8 actions", of each kind and however many changes each of them made
    static void anActionOfManyChangesIsOneOfTheEight() {
        MacroSheet x = Checks.sheetWithMacros(2);
        recordAdds(x, 0, 0, rows(0, 10, 1, 0));
        Checks.grantAll(x, 0);
        x.set(0, 7, 3);
        Checks.ruleForAll(x, 0, 0);
        x.record(1, 0, 7);
        int entries = x.entries();
        for (int i = 1; i <= 2; i++) {
            Checks.due(201, x.set(3, 3, -i));
            Checks.due(201, x.add(4, 4, 1));
            Checks.due(201, x.copyBase(5, 5));
            Checks.due(210, x.run(0, 1, 1));
        }
        Checks.due(entries + 2 * 813, x.entries());
        for (int i = 1; i <= 2; i++) {
            Checks.due(210, x.undo());
            Checks.due(201, x.undo());
            Checks.due(201, x.undo());
            Checks.due(201, x.undo());
        }
        Checks.due(entries, x.entries());
        Checks.dueThrow(IllegalStateException.class, x::undo);
    }

    // "that made a change or more": calls that throw or change nothing drive none out
    static void onlyActionsWithAChangeAreAmongTheEight() {
        MacroSheet x = Checks.sheetWithMacros(1);
        for (int i = 1; i <= 8; i++) {
            x.set(0, 0, i);
        }
        for (int i = 0; i < 9; i++) {
            Checks.due(0, x.set(0, 0, 8));
            Checks.due(0, x.run(0, 0, 0));
            Checks.dueThrow(IllegalArgumentException.class, () -> x.set(0, 0, 10000));
        }
        for (int i = 7; i >= 0; i--) {
            Checks.due(1, x.undo());
            Checks.due(i, x.cell(0, 0));
        }
        Checks.dueThrow(IllegalStateException.class, x::undo);
    }

    // "all cells get back what they had", also those that the action changed several times
    static void undoingLeavesNoTraceOfTheAction() {
        Twins.Calls[] actions = {x -> x.set(2, 2, 9), x -> x.add(0, 1, 40), x -> x.run(0, 3, 1),
            x -> x.set(5, 7, -9999), x -> x.run(1, 0, 0)};
        for (Twins.Calls action : actions) {
            Twins.dueNoTrace(ActionTermsTest::fewActions, x -> {
                action.on(x);
                Checks.due(true, x.undo() > 0);
            });
        }
    }

    private static void fewActions(MacroSheet x) {
        x.addMacro();
        x.addMacro();
        x.record(0, 0, 0);
        x.add(0, 0, 3);
        x.add(0, 0, -7);
        x.copyBase(1, 0);
        x.stop();
        x.record(1, 0, 0);
        x.add(5, 7, 4);
        x.stop();
        x.writeStep(0, 1);
        x.grant(0, 0, 0, 5, 7);
        x.grant(1, 0, 0, 5, 7);
        x.addRule(0, 0, 2, 3, 0, 1);
        x.set(4, 6, 11);
    }

    // "the entries of the action are taken out": those before it stay as they were
    static void undoTakesOutTheEntriesOfOneActionAlone() {
        MacroSheet x = Checks.sheetWithMacros(1);
        recordAdds(x, 0, 0, rows(0, 10, 1, 0));
        Checks.grantAll(x, 0);
        x.set(2, 2, 5);
        int entries = x.entries();
        x.run(0, 2, 2);
        Checks.due(0, x.lastBy(2, 2));
        Checks.due(10, x.undo());
        Checks.due(entries, x.entries());
        Checks.due(0, x.entriesOf(0));
        Checks.due(-1, x.lastBy(2, 2));
        Checks.due(0.0f, x.macroShare());
    }

    // "in all actions, undone or not"
    static void skippedCountsUndoneActionsToo() {
        MacroSheet x = Checks.sheetWithMacros(1);
        Checks.recordAdd(x, 0, 0, 0, 1);
        Checks.ruleForAll(x, 0, 0);
        for (int i = 1; i <= 9; i++) {
            x.set(0, 0, i);
            Checks.due(i, x.skipped());
        }
        for (int i = 0; i < 8; i++) {
            x.undo();
            Checks.due(9, x.skipped());
        }
        x.set(0, 0, 5);
        Checks.due(10, x.skipped());
    }

    // ---- where there is nothing

    // "Returns the number of steps that are thrown away.", and its like
    static void whereThereIsNothingTheNumberIs0() {
        MacroSheet x = Checks.sheetWithMacros(1);
        Checks.due(0, x.steps(0));
        Checks.due(0, x.record(0, 0, 0));
        Checks.due(0, x.stop());
        Checks.due(0, x.takeGrants(0));
        Checks.due(0, x.granted(0, 0));
        Checks.due(0, x.run(0, 0, 0));
        Checks.due(0, x.skipped());
        Checks.due(0, x.entries());
        Checks.due(0, x.entriesOf(-1));
        Checks.due(0, x.entriesOf(0));
        Checks.due('-', x.reason(0, 0, 0));
    }

    // "Returns a character of the text, which is empty at first."
    static void theTextStaysAsItIsUntilAStepIsWritten() {
        MacroSheet x = Checks.sheetWithMacros(1);
        x.record(0, 0, 0);
        x.set(0, 0, 1);
        x.stop();
        Checks.dueThrow(IndexOutOfBoundsException.class, () -> x.textAt(0));
        Checks.due(7, x.writeStep(0, 0));
        x.record(0, 1, 1);
        x.undo();
        Checks.due('1', x.textAt(6));
        Checks.dueThrow(IndexOutOfBoundsException.class, () -> x.writeStep(0, 0));
        Checks.due('s', x.textAt(0));
        Checks.dueThrow(IndexOutOfBoundsException.class, () -> x.textAt(7));
    }

    // "also 0 with "+"", and numbers of each length
    static void eachStepIsWrittenWithItsSigns() {
        MacroSheet x = Checks.sheetWithMacros(1);
        int[] numbers = {0, -1, 9, -10, 99, -100, 999, -1000, 9999};
        x.record(0, 1, 1);
        for (int number : numbers) {
            x.set(1, 1, number);
        }
        for (int i = 0; i < numbers.length; i++) {
            String due = "s+0+0=" + numbers[i];
            Checks.due(due.length(), x.writeStep(0, i));
            Checks.due(due, Checks.written(x, 0, i));
        }
        x.copyBase(0, 2);
        Checks.due(5, x.writeStep(0, 9));
        Checks.due("c-1+1", Checks.written(x, 0, 9));
    }

    // "Returns their number divided by that of all entries, both converted to float."
    static void theShareIsDividedInFloat() {
        MacroSheet x = Checks.sheetWithMacros(1);
        Checks.recordAdd(x, 0, 0, 0, 1);
        Checks.grantAll(x, 0);
        x.set(5, 7, 1);
        for (int runs = 1; runs <= 100; runs++) {
            x.run(0, 1, 1);
            Checks.due((float) runs / (float) (runs + 1), x.macroShare());
        }
    }

    // "Returns the sum of their values divided by their number, both converted to double."
    static void theMeanIsDividedInDouble() {
        MacroSheet x = new MacroSheet();
        int sum = 0;
        for (int place = 0; place < 48; place++) {
            int value = place % 2 == 0 ? 9999 - place : -9000 + 7 * place;
            x.set(place % 6, place / 6, value);
            sum += value;
            Checks.due((double) sum / (double) (place + 1), x.meanValue());
        }
    }

    // ---- what the tests begin with

    /** Records steps that add 1 to a cell of column 0 each, and leaves these cells at 0. */
    private static void recordAdds(MacroSheet x, int macro, int baseRow, int... rows) {
        x.record(macro, 0, baseRow);
        for (int row : rows) {
            Checks.due(1, x.add(0, row, 1));
        }
        if (rows.length < 10) {
            Checks.due(rows.length, x.stop());
        }
        for (int row : rows) {
            x.set(0, row, 0);
        }
    }

    /** Tells one row some times and then another one some times. */
    private static int[] rows(int row, int times, int other, int otherTimes) {
        int[] rows = new int[times + otherTimes];
        Arrays.fill(rows, 0, times, row);
        Arrays.fill(rows, times, rows.length, other);
        return rows;
    }

    private static void grantAllToAll(MacroSheet x, int macros) {
        for (int i = 0; i < macros; i++) {
            Checks.grantAll(x, i);
        }
    }

    private static void undoAll(MacroSheet x) {
        for (int i = 0; i < 8; i++) {
            if (Checks.outcome(x::undo).startsWith("throws.")) {
                return;
            }
        }
    }
}
