/** "An object is used for at most 512 calls": runs of just so many, with the most entries. */
final class LongRunsTest {
    private static final int CALLS = 512;
    private static final int PREPARED = 14;

    private LongRunsTest() {
    }

    static void the512thCallAnswersAsAnyOther() {
        MacroSheet x = new MacroSheet();
        for (int i = 1; i < CALLS; i++) {
            Checks.due(1, x.set(5, 7, i));
        }
        Checks.due(511, x.cell(5, 7));
        MacroSheet y = new MacroSheet();
        for (int i = 1; i <= CALLS; i++) {
            Checks.due(1, y.set(i % 6, i % 8, i));
        }
    }

    static void the512thCallCountsAllEntriesOfTheDearestRun() {
        int runs = CALLS - PREPARED - 1;
        int byHand = 10;
        int all = byHand + 210 * runs;
        Twins.Ask[] last = {MacroSheet::entries, x -> x.entriesOf(0), x -> x.entriesOf(-1),
            MacroSheet::macroShare, x -> x.cellByAudit(3, 4), x -> x.lastBy(3, 4),
            MacroSheet::undo, x -> x.run(0, 0, 0), MacroSheet::skipped};
        Object[] due = {all, all - byHand, byHand, (float) (all - byHand) / (float) all,
            7, 0, 210, 210, 0};
        for (int i = 0; i < last.length; i++) {
            MacroSheet x = dearestSheet();
            for (int run = 0; run < runs; run++) {
                Checks.due(210, x.run(0, 3, 4));
            }
            Checks.due(due[i], last[i].of(x));
        }
    }

    static void inTheDearestRunTheLatestEightActionsAreUndone() {
        MacroSheet x = dearestSheet();
        // Behind the runs there are 11 calls more.
        int runs = CALLS - PREPARED - 11;
        for (int run = 0; run < runs; run++) {
            Checks.due(210, x.run(0, 3, 4));
        }
        for (int i = 0; i < 8; i++) {
            Checks.due(210, x.undo());
        }
        Checks.dueThrow(IllegalStateException.class, x::undo);
        Checks.due(7, x.cell(3, 4));
        Checks.due(10 + 210 * (runs - 8), x.entries());
    }

    static void undoGivesTheRoomOfEntriesBack() {
        MacroSheet x = dearestSheet();
        for (int calls = PREPARED; calls + 2 < CALLS; calls += 2) {
            Checks.due(210, x.run(0, 0, 0));
            Checks.due(210, x.undo());
        }
        Checks.due(10, x.entries());
    }

    // What the answers are then is free, but the room of the audit stays that of 512 calls.
    static void beyondTheLastCallTheAuditStaysBounded() {
        MacroSheet x = dearestSheet();
        for (int i = 0; i < 2000; i++) {
            int changes = x.run(0, 3, 4);
            Checks.due(true, changes >= 0 && changes <= 210);
        }
        Checks.due(true, x.entries() <= CALLS * 210);
    }

    /** Lets each run of macro 0 cause as many changes as an action can have, by 14 calls. */
    private static MacroSheet dearestSheet() {
        MacroSheet x = new MacroSheet();
        x.addMacro();
        x.record(0, 0, 0);
        for (int i = 0; i < 9; i++) {
            x.add(0, 0, i % 2 == 0 ? 1 : -1);
        }
        x.set(0, 0, 7);
        x.grant(0, 0, 0, 5, 7);
        x.addRule(0, 0, 5, 7, 0, 0);
        return x;
    }
}
