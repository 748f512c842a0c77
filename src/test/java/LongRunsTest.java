/** Runs of 512 calls that fill the audit as far as calls can. */
final class LongRunsTest {
    private LongRunsTest() {
    }

    static void promise21TheDearestRunKeepsEachEntry() {
        MacroSheet x = new MacroSheet();
        int calls = prepare(x);
        int due = x.entries();
        for (; calls < 500; calls++) {
            Checks.due(210, x.run(0, 3, 4));
            due += 210;
        }
        Checks.due(due, x.entries());
        Checks.due(due - 10, x.entriesOf(0));
        Checks.due(10, x.entriesOf(-1));
        Checks.due((float) (due - 10) / (float) due, x.macroShare());
        Checks.due(0, x.cellByAudit(3, 4));
        Checks.due(0, x.lastBy(3, 4));
        for (int i = 1; i <= 8; i++) {
            Checks.due(210, x.undo());
        }
        Checks.due(due - 8 * 210, x.entries());
        Checks.dueThrow(IllegalStateException.class, x::undo);
    }

    static void promise20UndoGivesTheRoomOfEntriesBack() {
        MacroSheet x = new MacroSheet();
        prepare(x);
        int before = x.entries();
        for (int i = 0; i < 240; i++) {
            Checks.due(210, x.run(0, 0, 0));
            Checks.due(210, x.undo());
        }
        Checks.due(before, x.entries());
    }

    static void beyondTheLastCallTheAuditStaysBounded() {
        MacroSheet x = new MacroSheet();
        prepare(x);
        for (int i = 0; i < 2000; i++) {
            int changes = x.run(0, 3, 4);
            Checks.due(true, changes >= 0 && changes <= 210);
        }
        Checks.due(true, x.entries() <= 512 * 210);
    }

    /** Lets each run of macro 0 cause as many changes as an action can have; counts its calls. */
    private static int prepare(MacroSheet x) {
        x.addMacro();
        x.record(0, 0, 0);
        for (int i = 0; i < 10; i++) {
            x.add(0, 0, i % 2 == 0 ? 1 : -1);
        }
        x.grant(0, 0, 0, 5, 7);
        x.addRule(0, 0, 5, 7, 0, 0);
        return 14;
    }
}
