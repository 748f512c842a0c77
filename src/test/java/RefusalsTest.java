import java.util.NoSuchElementException;

/**
 * Each sentence of the promises that begins with "Throws": the last argument that is allowed and
 * the first that is not, on each side; that a refused call leaves nothing that a later one could
 * tell; and which exception comes first where several apply.
 */
final class RefusalsTest {
    private static final Class<IndexOutOfBoundsException> BOUNDS =
            IndexOutOfBoundsException.class;
    private static final Class<IllegalArgumentException> ARGUMENT =
            IllegalArgumentException.class;
    private static final Class<IllegalStateException> STATE = IllegalStateException.class;
    private static final Class<UnsupportedOperationException> UNSUPPORTED =
            UnsupportedOperationException.class;
    private static final Class<NoSuchElementException> NO_ELEMENT = NoSuchElementException.class;
    private static final Class<ArithmeticException> ARITHMETIC = ArithmeticException.class;

    private RefusalsTest() {
    }

    // ---- set, add and copyBase

    // "Throws IndexOutOfBoundsException if there is no such cell"
    static void promise02SetRefusesCellsThatAreNone() {
        for (Twins.Calls start : Twins.STARTS) {
            Twins.dueCells(start, (x, column, row) -> x.set(column, row, 4));
        }
    }

    // "Throws IllegalArgumentException if the number is out of range"
    static void promise02SetRefusesNumbersOutOfRange() {
        for (Twins.Calls start : Twins.STARTS) {
            Twins.dueNumbers(ARGUMENT, start, -9999, 9999, (x, value) -> x.set(3, 4, value));
        }
    }

    static void promise02SetLooksAtTheCellBeforeTheNumber() {
        for (int value : new int[] {-10000, 10000, Twins.LOWEST, Twins.GREATEST}) {
            Twins.dueNoCells(Twins::recorded, (x, column, row) -> x.set(column, row, value));
        }
    }

    // "Throws IndexOutOfBoundsException if there is no such cell"
    static void promise03AddRefusesCellsThatAreNone() {
        for (Twins.Calls start : Twins.STARTS) {
            Twins.dueCells(start, (x, column, row) -> x.add(column, row, 4));
        }
    }

    // "Throws IllegalArgumentException if the number .. is out of range"
    static void promise03AddRefusesNumbersOutOfRange() {
        for (Twins.Calls start : Twins.STARTS) {
            Twins.dueNumbers(ARGUMENT, start, -9999, 9999, (x, number) -> x.add(3, 7, number));
        }
        // The sum would be in range with either number: the number alone is refused.
        Twins.dueRefused(ARGUMENT, x -> x.set(3, 7, -9999), x -> x.add(3, 7, 10000));
        Twins.dueRefused(ARGUMENT, x -> x.set(3, 7, 9999), x -> x.add(3, 7, -10000));
    }

    // "Throws IllegalArgumentException if .. the value that the cell would have, is out of range"
    static void promise03AddRefusesValuesOutOfRange() {
        for (int value : new int[] {-9999, -1, 0, 1, 9998, 9999}) {
            Twins.Calls start = x -> x.set(2, 2, value);
            int greatest = Math.min(9999, 9999 - value);
            int lowest = Math.max(-9999, -9999 - value);
            Twins.dueNumbers(ARGUMENT, start, lowest, greatest,
                    (x, number) -> x.add(2, 2, number));
        }
    }

    static void promise03AddReachesBothEndsOfTheValues() {
        MacroSheet x = new MacroSheet();
        x.set(2, 2, 9998);
        Checks.due(1, x.add(2, 2, 1));
        Checks.due(9999, x.cell(2, 2));
        x.set(2, 2, -9998);
        Checks.due(1, x.add(2, 2, -1));
        Checks.due(-9999, x.cell(2, 2));
    }

    static void promise03AddLooksAtTheCellBeforeTheNumber() {
        for (int number : new int[] {-10000, 10000, Twins.LOWEST, Twins.GREATEST}) {
            Twins.dueNoCells(Twins::recorded, (x, column, row) -> x.add(column, row, number));
        }
    }

    // "Throws IndexOutOfBoundsException if there is no such cell"
    static void promise04CopyBaseRefusesCellsThatAreNone() {
        Twins.dueCells(Twins::recorded, MacroSheet::copyBase);
        Twins.dueCells(Twins::fullAndRecorded, MacroSheet::copyBase);
    }

    // "Throws IllegalStateException if no macro is recorded"
    static void promise04CopyBaseRefusesWithoutARecording() {
        Twins.dueRefused(STATE, Twins::fresh, x -> x.copyBase(0, 0));
        Twins.dueRefused(STATE, Twins::busy, x -> x.copyBase(5, 7));
        Twins.dueRefused(STATE, Twins::full, x -> x.copyBase(2, 3));
        Twins.dueRefused(STATE, RefusalsTest::stopped, x -> x.copyBase(1, 3));
    }

    static void promise04CopyBaseLooksAtTheCellBeforeTheRecording() {
        Twins.dueNoCells(Twins::fresh, MacroSheet::copyBase);
        Twins.dueNoCells(Twins::full, MacroSheet::copyBase);
    }

    // ---- cell and cellByAudit

    // "Throws IndexOutOfBoundsException if there is no such cell"
    static void promise05CellRefusesCellsThatAreNone() {
        for (Twins.Calls start : Twins.STARTS) {
            Twins.dueCells(start, MacroSheet::cell);
        }
    }

    // "Throws IndexOutOfBoundsException if there is no such cell"
    static void promise06CellByAuditRefusesCellsThatAreNone() {
        for (Twins.Calls start : Twins.STARTS) {
            Twins.dueCells(start, MacroSheet::cellByAudit);
        }
    }

    // ---- macros

    // "Throws IllegalStateException if there are 6 macros"
    static void promise07AddMacroRefusesASeventh() {
        Twins.dueRefused(STATE, Twins::full, MacroSheet::addMacro);
        Twins.dueRefused(STATE, Twins::fullAndRecorded, MacroSheet::addMacro);
        Twins.dueAnswered(Twins::busy, MacroSheet::addMacro);
        Twins.dueAnswered(Twins::recorded, MacroSheet::addMacro);
        Checks.due(5, Checks.sheetWithMacros(5).addMacro());
    }

    // "Throws IndexOutOfBoundsException if there is no such macro .."
    static void promise08RecordRefusesMacrosThatAreNone() {
        Twins.dueNumbers(BOUNDS, Twins::fresh, 0, -1, (x, macro) -> x.record(macro, 0, 0));
        Twins.dueNumbers(BOUNDS, Twins::busy, 0, 2, (x, macro) -> x.record(macro, 0, 0));
        Twins.dueNumbers(BOUNDS, Twins::full, 0, 5, (x, macro) -> x.record(macro, 0, 0));
    }

    // "Throws IndexOutOfBoundsException if there is .. no such cell"
    static void promise08RecordRefusesCellsThatAreNone() {
        Twins.dueCells(Twins::busy, (x, column, row) -> x.record(0, column, row));
        Twins.dueCells(Twins::full, (x, column, row) -> x.record(5, column, row));
    }

    // "Throws IllegalStateException if a macro is recorded"
    static void promise08RecordRefusesWhileAMacroIsRecorded() {
        for (int macro = 0; macro <= 2; macro++) {
            int m = macro;
            Twins.dueRefused(STATE, Twins::recorded, x -> x.record(m, 0, 0));
        }
        Twins.dueRefused(STATE, Twins::fullAndRecorded, x -> x.record(5, 1, 3));
        Twins.dueAnswered(RefusalsTest::stopped, x -> x.record(2, 0, 0));
    }

    static void promise08RecordLooksAtNumbersBeforeTheRecording() {
        Twins.dueNoCells(Twins::recorded, (x, column, row) -> x.record(2, column, row));
        for (int macro : new int[] {-1, 3, Twins.LOWEST, Twins.GREATEST}) {
            Twins.dueRefused(BOUNDS, Twins::recorded, x -> x.record(macro, 0, 0));
        }
    }

    // "Throws IllegalStateException if no macro is recorded"
    static void promise09StopRefusesWithoutARecording() {
        Twins.dueRefused(STATE, Twins::fresh, MacroSheet::stop);
        Twins.dueRefused(STATE, Twins::busy, MacroSheet::stop);
        Twins.dueRefused(STATE, Twins::full, MacroSheet::stop);
        Twins.dueRefused(STATE, RefusalsTest::stopped, MacroSheet::stop);
        Twins.dueAnswered(Twins::recorded, MacroSheet::stop);
    }

    // "Throws IndexOutOfBoundsException if there is no such macro"
    static void promise10StepsRefusesMacrosThatAreNone() {
        Twins.dueNumbers(BOUNDS, Twins::fresh, 0, -1, MacroSheet::steps);
        Twins.dueNumbers(BOUNDS, Twins::recorded, 0, 2, MacroSheet::steps);
        Twins.dueNumbers(BOUNDS, Twins::full, 0, 5, MacroSheet::steps);
    }

    // ---- grants

    // "Throws IndexOutOfBoundsException if there is no such macro .."
    static void promise11GrantRefusesMacrosThatAreNone() {
        Twins.dueNumbers(BOUNDS, Twins::fresh, 0, -1, (x, m) -> x.grant(m, 0, 0, 0, 0));
        Twins.dueNumbers(BOUNDS, Twins::recorded, 0, 2, (x, m) -> x.grant(m, 0, 0, 0, 0));
        Twins.dueNumbers(BOUNDS, x -> { Twins.full(x); x.takeGrants(0); x.takeGrants(5); }, 0, 5,
                (x, m) -> x.grant(m, 0, 0, 5, 7));
    }

    // "Throws IndexOutOfBoundsException if there is .. no such cell, for either"
    static void promise11GrantRefusesCellsThatAreNone() {
        Twins.dueCells(Twins::busy, (x, column, row) -> x.grant(1, column, row, 5, 7));
        Twins.dueCells(Twins::busy, (x, column, row) -> x.grant(1, 0, 0, column, row));
    }

    // "Throws IllegalArgumentException if this is no range"
    static void promise11GrantRefusesWhatIsNoRange() {
        for (int[] cells : noRanges()) {
            Twins.dueRefused(ARGUMENT, Twins::recorded,
                    x -> x.grant(2, cells[0], cells[1], cells[2], cells[3]));
        }
        for (int[] cells : ranges()) {
            Twins.dueAnswered(Twins::recorded,
                    x -> x.grant(2, cells[0], cells[1], cells[2], cells[3]));
        }
    }

    // "Throws IllegalStateException if the macro has 4 grants"
    static void promise11GrantRefusesAFifth() {
        Twins.dueRefused(STATE, Twins::full, x -> x.grant(0, 0, 0, 5, 7));
        Twins.dueRefused(STATE, Twins::fullAndRecorded, x -> x.grant(5, 2, 2, 2, 2));
        Twins.dueAnswered(Twins::full, x -> x.grant(1, 0, 0, 5, 7));
        MacroSheet x = Checks.sheetWithMacros(1);
        for (int i = 1; i <= 4; i++) {
            Checks.due(i, x.grant(0, 0, 0, 0, 0));
        }
        x.takeGrants(0);
        Checks.due(1, x.grant(0, 0, 0, 0, 0));
    }

    static void promise11GrantLooksAtCellsThenAtTheRangeThenAtTheGrants() {
        // Macro 0 of the full sheet has 4 grants.
        Twins.dueNoCells(Twins::full, (x, column, row) -> x.grant(0, column, row, 0, 0));
        Twins.dueNoCells(Twins::full, (x, column, row) -> x.grant(0, 3, 3, column, row));
        Twins.dueRefused(BOUNDS, Twins::full, x -> x.grant(6, 3, 3, 2, 2));
        Twins.dueRefused(BOUNDS, Twins::full, x -> x.grant(-1, 3, 3, 2, 2));
        for (int[] cells : noRanges()) {
            Twins.dueRefused(ARGUMENT, Twins::full,
                    x -> x.grant(0, cells[0], cells[1], cells[2], cells[3]));
        }
    }

    // "Throws IndexOutOfBoundsException if there is no such macro"
    static void promise12TakeGrantsRefusesMacrosThatAreNone() {
        Twins.dueNumbers(BOUNDS, Twins::fresh, 0, -1, MacroSheet::takeGrants);
        Twins.dueNumbers(BOUNDS, Twins::recorded, 0, 2, MacroSheet::takeGrants);
        Twins.dueNumbers(BOUNDS, Twins::full, 0, 5, MacroSheet::takeGrants);
    }

    // "Throws IndexOutOfBoundsException if there is no such cell"
    static void promise13GrantedRefusesCellsThatAreNone() {
        for (Twins.Calls start : Twins.STARTS) {
            Twins.dueCells(start, MacroSheet::granted);
        }
    }

    // ---- reason and run

    // "Throws IndexOutOfBoundsException if there is no such macro .."
    static void promise14ReasonRefusesMacrosThatAreNone() {
        Twins.dueNumbers(BOUNDS, Twins::fresh, 0, -1, (x, macro) -> x.reason(macro, 0, 0));
        Twins.dueNumbers(BOUNDS, Twins::recorded, 0, 2, (x, macro) -> x.reason(macro, 0, 0));
        Twins.dueNumbers(BOUNDS, Twins::full, 0, 5, (x, macro) -> x.reason(macro, 5, 7));
    }

    // "Throws IndexOutOfBoundsException if there is .. no such cell"
    static void promise14ReasonRefusesCellsThatAreNone() {
        for (int macro = 0; macro <= 2; macro++) {
            int m = macro;
            Twins.dueCells(Twins::recorded, (x, column, row) -> x.reason(m, column, row));
        }
        Twins.dueCells(Twins::full, (x, column, row) -> x.reason(5, column, row));
    }

    // "Throws IndexOutOfBoundsException if there is no such macro .."
    static void promise15RunRefusesMacrosThatAreNone() {
        for (int count = 0; count <= 6; count++) {
            Twins.dueNumbers(BOUNDS, emptyMacros(count), 0, count - 1,
                    (x, macro) -> x.run(macro, 5, 7));
        }
    }

    // "Throws IndexOutOfBoundsException if there is .. no such cell"
    static void promise15RunRefusesCellsThatAreNone() {
        Twins.dueCells(emptyMacros(6), (x, column, row) -> x.run(5, column, row));
        Twins.dueNoCells(Twins::busy, (x, column, row) -> x.run(0, column, row));
        Twins.dueNoCells(Twins::full, (x, column, row) -> x.run(1, column, row));
    }

    // "Throws IllegalStateException if the macro is recorded"
    static void promise15RunRefusesTheRecordedMacro() {
        Twins.Calls canRun = x -> {
            Twins.recorded(x);
            x.grant(2, 0, 0, 5, 7);
        };
        MacroSheet y = new MacroSheet();
        canRun.on(y);
        Checks.due('-', y.reason(2, 1, 3));
        Twins.dueRefused(STATE, canRun, x -> x.run(2, 1, 3));
        Twins.dueAnswered(canRun, x -> x.run(1, 0, 0));
        Twins.dueAnswered(x -> { canRun.on(x); x.stop(); }, x -> x.run(2, 1, 3));
    }

    // "Throws UnsupportedOperationException if it cannot run"
    static void promise15RunRefusesAMacroThatCannotRun() {
        Twins.dueRefused(UNSUPPORTED, Twins::busy, x -> x.run(0, 5, 7));
        Twins.dueRefused(UNSUPPORTED, Twins::full, x -> x.run(2, 5, 6));
        Twins.dueRefused(UNSUPPORTED, x -> { Twins.busy(x); x.takeGrants(1); },
                x -> x.run(1, 1, 1));
        Twins.dueRefused(UNSUPPORTED, x -> { Twins.recorded(x); x.set(3, 3, 9995); },
                x -> x.run(1, 2, 3));
        Twins.dueAnswered(x -> { Twins.recorded(x); x.set(3, 3, 9994); }, x -> x.run(1, 2, 3));
    }

    static void promise15RunLooksAtNumbersThenAtTheRecordingThenAtTheReasons() {
        // The recorded macro cannot run anywhere else than within its one grant either.
        MacroSheet y = new MacroSheet();
        Twins.recorded(y);
        Checks.due('g', y.reason(2, 3, 3));
        Checks.due('o', y.reason(2, 5, 7));
        Twins.dueRefused(STATE, Twins::recorded, x -> x.run(2, 3, 3));
        Twins.dueRefused(STATE, Twins::recorded, x -> x.run(2, 5, 7));
        Twins.dueNoCells(Twins::recorded, (x, column, row) -> x.run(2, column, row));
    }

    // ---- rules

    // "Throws IndexOutOfBoundsException if there is no such cell, for either .."
    static void promise16AddRuleRefusesCellsThatAreNone() {
        Twins.dueCells(Twins::recorded, (x, column, row) -> x.addRule(column, row, 5, 7, 0, 1));
        Twins.dueCells(Twins::recorded, (x, column, row) -> x.addRule(0, 0, column, row, 0, 1));
    }

    // "Throws IndexOutOfBoundsException if there is .. no such macro"
    static void promise16AddRuleRefusesMacrosThatAreNone() {
        Twins.dueNumbers(BOUNDS, Twins::fresh, 0, -1, (x, m) -> x.addRule(0, 0, 0, 0, m, 0));
        Twins.dueNumbers(BOUNDS, Twins::busy, 0, 2, (x, m) -> x.addRule(0, 0, 0, 0, m, 0));
        Twins.dueNumbers(BOUNDS, emptyMacros(6), 0, 5,
                (x, m) -> x.addRule(0, 0, 0, 0, m, 0));
    }

    // "Throws IllegalArgumentException if this is no range .."
    static void promise16AddRuleRefusesWhatIsNoRange() {
        for (int[] cells : noRanges()) {
            Twins.dueRefused(ARGUMENT, Twins::recorded,
                    x -> x.addRule(cells[0], cells[1], cells[2], cells[3], 0, 0));
        }
        for (int[] cells : ranges()) {
            Twins.dueAnswered(Twins::recorded,
                    x -> x.addRule(cells[0], cells[1], cells[2], cells[3], 0, 0));
        }
    }

    // "Throws IllegalArgumentException if .. the rank is out of range"
    static void promise16AddRuleRefusesRanksOutOfRange() {
        Twins.dueNumbers(ARGUMENT, Twins::busy, 0, 9, (x, r) -> x.addRule(0, 0, 5, 7, 2, r));
        Twins.dueNumbers(ARGUMENT, Twins::recorded, 0, 9, (x, r) -> x.addRule(0, 0, 0, 0, 0, r));
    }

    // "Throws IllegalStateException if there are 6 rules"
    static void promise16AddRuleRefusesASeventh() {
        Twins.dueRefused(STATE, Twins::full, x -> x.addRule(0, 0, 5, 7, 0, 9));
        Twins.dueRefused(STATE, Twins::fullAndRecorded, x -> x.addRule(0, 0, 0, 0, 5, 0));
        MacroSheet x = Checks.sheetWithMacros(1);
        for (int i = 0; i < 6; i++) {
            Checks.due(i, x.addRule(0, 0, 5, 7, 0, 0));
        }
    }

    static void promise16AddRuleLooksAtNumbersThenAtRangeAndRankThenAtTheRules() {
        // The full sheet has 6 rules; the macro, the range and the rank are wrong one by one.
        Twins.dueNoCells(Twins::full, (x, column, row) -> x.addRule(column, row, 0, 0, 0, 10));
        Twins.dueNoCells(Twins::full, (x, column, row) -> x.addRule(3, 3, column, row, 0, -1));
        for (int macro : new int[] {-1, 6, Twins.LOWEST, Twins.GREATEST}) {
            Twins.dueRefused(BOUNDS, Twins::full, x -> x.addRule(3, 3, 2, 3, macro, 10));
            Twins.dueRefused(BOUNDS, Twins::full, x -> x.addRule(0, 0, 5, 7, macro, 10));
            Twins.dueRefused(BOUNDS, Twins::full, x -> x.addRule(3, 3, 2, 3, macro, 0));
            Twins.dueRefused(BOUNDS, Twins::full, x -> x.addRule(0, 0, 5, 7, macro, 0));
        }
        for (int[] cells : noRanges()) {
            Twins.dueRefused(ARGUMENT, Twins::full,
                    x -> x.addRule(cells[0], cells[1], cells[2], cells[3], 0, 0));
        }
        for (int rank : new int[] {-1, 10, Twins.LOWEST, Twins.GREATEST}) {
            Twins.dueRefused(ARGUMENT, Twins::full, x -> x.addRule(0, 0, 5, 7, 0, rank));
        }
    }

    // "Throws IndexOutOfBoundsException if there is no such rule"
    static void promise17SetRankRefusesRulesThatAreNone() {
        Twins.dueNumbers(BOUNDS, Twins::fresh, 0, -1, (x, rule) -> x.setRank(rule, 5));
        Twins.dueNumbers(BOUNDS, Twins::recorded, 0, 2, (x, rule) -> x.setRank(rule, 5));
        Twins.dueNumbers(BOUNDS, Twins::full, 0, 5, (x, rule) -> x.setRank(rule, 5));
    }

    // "Throws IllegalArgumentException if the rank is out of range"
    static void promise17SetRankRefusesRanksOutOfRange() {
        Twins.dueNumbers(ARGUMENT, Twins::busy, 0, 9, (x, rank) -> x.setRank(0, rank));
        Twins.dueNumbers(ARGUMENT, Twins::full, 0, 9, (x, rank) -> x.setRank(5, rank));
    }

    static void promise17SetRankLooksAtTheRuleBeforeTheRank() {
        for (int rank : new int[] {-1, 10}) {
            Twins.dueRefused(BOUNDS, Twins::fresh, x -> x.setRank(0, rank));
            Twins.dueRefused(BOUNDS, Twins::busy, x -> x.setRank(-1, rank));
            Twins.dueRefused(BOUNDS, Twins::busy, x -> x.setRank(3, rank));
            Twins.dueRefused(BOUNDS, Twins::full, x -> x.setRank(6, rank));
        }
    }

    // "Throws IndexOutOfBoundsException if there is no such cell"
    static void promise18RuleRefusesCellsThatAreNone() {
        Twins.Calls everywhere = x -> {
            Twins.busy(x);
            x.addRule(0, 0, 5, 7, 0, 0);
        };
        Twins.dueCells(everywhere, MacroSheet::rule);
        for (Twins.Calls start : Twins.STARTS) {
            Twins.dueNoCells(start, MacroSheet::rule);
        }
    }

    // "Throws NoSuchElementException if there is none"
    static void promise18RuleRefusesCellsWithoutARule() {
        Twins.dueRefused(NO_ELEMENT, Twins::fresh, x -> x.rule(0, 0));
        Twins.dueRefused(NO_ELEMENT, Twins::busy, x -> x.rule(1, 2));
        Twins.dueRefused(NO_ELEMENT, Twins::recorded, x -> x.rule(3, 4));
        Twins.dueRefused(NO_ELEMENT, Twins::full, x -> x.rule(2, 7));
        Twins.dueAnswered(Twins::busy, x -> x.rule(1, 1));
        Twins.dueAnswered(Twins::busy, x -> x.rule(0, 2));
        Twins.dueAnswered(Twins::busy, x -> x.rule(4, 4));
    }

    // ---- audit

    // "Throws IllegalStateException if there is none that can be undone"
    static void promise20UndoRefusesWithoutAnActionThatCanBeUndone() {
        Twins.dueRefused(STATE, Twins::fresh, MacroSheet::undo);
        Twins.dueRefused(STATE, emptyMacros(6), MacroSheet::undo);
        for (Twins.Calls start : new Twins.Calls[] {Twins::busy, Twins::recorded, Twins::full,
                Twins::fullAndRecorded}) {
            Twins.dueAnswered(start, MacroSheet::undo);
            Twins.dueRefused(STATE, x -> { start.on(x); undoAll(x); }, MacroSheet::undo);
        }
    }

    // "Throws IndexOutOfBoundsException if there is no such macro", but -1 is "for changes by hand"
    static void promise22EntriesOfRefusesMacrosThatAreNone() {
        Twins.dueNumbers(BOUNDS, Twins::fresh, -1, -1, MacroSheet::entriesOf);
        Twins.dueNumbers(BOUNDS, Twins::recorded, -1, 2, MacroSheet::entriesOf);
        Twins.dueNumbers(BOUNDS, Twins::full, -1, 5, MacroSheet::entriesOf);
    }

    // "Throws IndexOutOfBoundsException if there is no such cell"
    static void promise23LastByRefusesCellsThatAreNone() {
        Twins.Calls corners = x -> {
            x.set(0, 0, 1);
            x.set(5, 0, 1);
            x.set(0, 7, 1);
            x.set(5, 7, 1);
        };
        Twins.dueCells(corners, MacroSheet::lastBy);
        for (Twins.Calls start : Twins.STARTS) {
            Twins.dueNoCells(start, MacroSheet::lastBy);
        }
    }

    // "Throws NoSuchElementException if no entry is for it"
    static void promise23LastByRefusesCellsWithoutAnEntry() {
        Twins.dueRefused(NO_ELEMENT, Twins::fresh, x -> x.lastBy(0, 0));
        Twins.dueRefused(NO_ELEMENT, x -> x.set(1, 1, 0), x -> x.lastBy(1, 1));
        Twins.dueRefused(NO_ELEMENT, x -> { x.set(1, 1, 2); x.undo(); }, x -> x.lastBy(1, 1));
        Twins.dueRefused(NO_ELEMENT, Twins::full, x -> x.lastBy(5, 7));
        Twins.dueAnswered(x -> { x.set(1, 1, 2); x.set(1, 1, 0); }, x -> x.lastBy(1, 1));
    }

    // "Throws IndexOutOfBoundsException if there is no such macro .."
    static void promise24WriteStepRefusesMacrosThatAreNone() {
        Twins.dueNumbers(BOUNDS, Twins::fresh, 0, -1, (x, macro) -> x.writeStep(macro, 0));
        Twins.dueNumbers(BOUNDS, Twins::busy, 0, 2, (x, macro) -> x.writeStep(macro, 0));
        Twins.dueNumbers(BOUNDS, Twins::recorded, 0, 2, (x, macro) -> x.writeStep(macro, 0));
    }

    // "Throws IndexOutOfBoundsException if there is .. no such step"
    static void promise24WriteStepRefusesStepsThatAreNone() {
        Twins.dueNumbers(BOUNDS, Twins::busy, 0, 2, (x, step) -> x.writeStep(0, step));
        Twins.dueNumbers(BOUNDS, Twins::recorded, 0, 1, (x, step) -> x.writeStep(2, step));
        Twins.dueNumbers(BOUNDS, Twins::full, 0, -1, (x, step) -> x.writeStep(5, step));
        Twins.dueNumbers(BOUNDS, RefusalsTest::tenSteps, 0, 9, (x, step) -> x.writeStep(0, step));
    }

    // "Throws IndexOutOfBoundsException if there is no such character"
    static void promise25TextAtRefusesCharactersThatAreNone() {
        Twins.dueNumbers(BOUNDS, Twins::fresh, 0, -1, MacroSheet::textAt);
        Twins.dueNumbers(BOUNDS, Twins::busy, 0, "a+0-1=-4".length() - 1, MacroSheet::textAt);
        Twins.dueNumbers(BOUNDS, x -> { Twins.full(x); x.writeStep(0, 2); }, 0,
                "c+0+1".length() - 1, MacroSheet::textAt);
        Twins.dueNumbers(BOUNDS, x -> { tenSteps(x); x.writeStep(0, 9); }, 0,
                "s-5-7=-9999".length() - 1, MacroSheet::textAt);
    }

    // "Throws ArithmeticException if there are no entries"
    static void promise26MacroShareRefusesWithoutEntries() {
        Twins.dueRefused(ARITHMETIC, Twins::fresh, MacroSheet::macroShare);
        Twins.dueRefused(ARITHMETIC, x -> x.set(0, 0, 0), MacroSheet::macroShare);
        Twins.dueRefused(ARITHMETIC, x -> { x.set(0, 0, 1); x.undo(); }, MacroSheet::macroShare);
        Twins.dueAnswered(x -> x.set(0, 0, 1), MacroSheet::macroShare);
        Twins.dueAnswered(x -> { x.set(0, 0, 1); x.set(0, 0, 0); }, MacroSheet::macroShare);
    }

    // "Throws ArithmeticException if all are 0"
    static void promise27MeanValueRefusesIfAllAre0() {
        Twins.dueRefused(ARITHMETIC, Twins::fresh, MacroSheet::meanValue);
        Twins.dueRefused(ARITHMETIC, x -> { x.set(0, 0, 1); x.set(0, 0, 0); },
                MacroSheet::meanValue);
        Twins.dueRefused(ARITHMETIC, x -> { x.set(5, 7, 1); x.undo(); }, MacroSheet::meanValue);
        Twins.dueAnswered(x -> x.set(5, 7, 1), MacroSheet::meanValue);
        Twins.dueAnswered(x -> x.set(0, 0, -1), MacroSheet::meanValue);
        // The sum alone is 0.
        Twins.dueAnswered(x -> { x.set(0, 0, -1); x.set(5, 7, 1); }, MacroSheet::meanValue);
    }

    // ---- what the calls begin with

    private static void stopped(MacroSheet x) {
        Twins.recorded(x);
        x.stop();
    }

    private static Twins.Calls emptyMacros(int count) {
        return x -> {
            for (int i = 0; i < count; i++) {
                x.addMacro();
            }
        };
    }

    /** Macro 0 has ten steps, of which the last one is s-5-7=-9999. */
    private static void tenSteps(MacroSheet x) {
        x.addMacro();
        x.record(0, 5, 7);
        for (int i = 0; i < 9; i++) {
            x.add(0, i % 8, i);
        }
        x.set(0, 0, -9999);
    }

    private static void undoAll(MacroSheet x) {
        for (int i = 0; i < 8; i++) {
            String answer = Checks.outcome(x::undo);
            if (answer.startsWith("throws.")) {
                return;
            }
        }
    }

    /** Pairs of cells of which the second one has a lower column, a lower row, or both. */
    private static int[][] noRanges() {
        return new int[][] {{3, 3, 2, 3}, {3, 3, 3, 2}, {3, 3, 2, 2}, {3, 3, 2, 4}, {3, 3, 4, 2},
            {5, 7, 0, 0}, {1, 0, 0, 7}, {0, 1, 5, 0}};
    }

    private static int[][] ranges() {
        return new int[][] {{3, 3, 3, 3}, {3, 3, 4, 3}, {3, 3, 3, 4}, {0, 0, 5, 7}, {0, 0, 0, 0},
            {5, 7, 5, 7}, {0, 7, 5, 7}, {5, 0, 5, 7}};
    }
}
