import java.util.ArrayList;
import java.util.Arrays;
import java.util.NoSuchElementException;

/**
 * A sheet with recorded macros: cells that are changed by hand or by macros, macros whose steps are
 * recorded relative to a cell, grants of ranges that bound what a macro may change, rules that run
 * macros when cells change, an audit of all changes, and undoing of an action with all that it
 * caused.
 */
public final class MacroSheet {
    private static final int COLUMNS = 6;
    private static final int ROWS = 8;
    private static final int PLACES = COLUMNS * ROWS;
    private static final int LARGEST = 9999;
    private static final int MOST_MACROS = 6;
    private static final int MOST_STEPS = 10;
    private static final int MOST_GRANTS = 4;
    private static final int MOST_RULES = 6;
    private static final int HIGHEST_RANK = 9;
    private static final int DEPTH_WITHOUT_RULES = 3;
    private static final int MOST_RUNS_BY_RULES = 20;
    private static final int MOST_UNDOS = 8;
    private static final int MOST_CALLS = 512;
    private static final int MOST_CHANGES = (1 + MOST_RUNS_BY_RULES) * MOST_STEPS;
    private static final int MOST_ENTRIES = MOST_CALLS * MOST_CHANGES;
    private static final int NONE = -1;
    private static final int BY_HAND = -1;
    private static final char SET = 's';
    private static final char ADD = 'a';
    private static final char COPY = 'c';
    private static final char OUTSIDE = 'o';
    private static final char NOT_GRANTED = 'g';
    private static final char VALUE = 'v';
    private static final char CAN_RUN = '-';

    private final Cells cells;
    private final Cells trial;
    private final ArrayList<Macro> macros;
    private final ArrayList<Rule> rules;
    private final Audit audit;
    private final History history;
    private final StringBuilder text;
    // The entries of the action at work are its queue: one depth for each of them, in their order.
    private final int[] depths;
    private int actionStart;
    private int recorded;
    private int baseColumn;
    private int baseRow;
    private int skippedMacros;

    /** Creates a sheet without macros and rules. */
    public MacroSheet() {
        cells = new Cells();
        trial = new Cells();
        macros = new ArrayList<>();
        rules = new ArrayList<>();
        audit = new Audit();
        history = new History();
        text = new StringBuilder();
        depths = new int[MOST_CHANGES];
        recorded = NONE;
    }

    // ---- cells

    /** Lets a cell become a number, by hand; returns the number of changes of the action. */
    public int set(int column, int row, int value)
            throws IndexOutOfBoundsException, IllegalArgumentException {
        needCell(column, row);
        if (!isValue(value)) {
            throw new IllegalArgumentException("the number is out of range");
        }
        return changeByHand(SET, column, row, value);
    }

    /** Adds a number to a cell, by hand; returns the number of changes of the action. */
    public int add(int column, int row, int number)
            throws IndexOutOfBoundsException, IllegalArgumentException {
        needCell(column, row);
        // The number comes first: only one in range is sure not to wrap around in the sum.
        if (!isValue(number) || !isValue(cells.valueAt(placeOf(column, row)) + number)) {
            throw new IllegalArgumentException("the number or the value is out of range");
        }
        return changeByHand(ADD, column, row, number);
    }

    /**
     * Lets a cell become the value of the base cell of the recording, by hand; returns the number
     * of changes of the action.
     */
    public int copyBase(int column, int row)
            throws IndexOutOfBoundsException, IllegalStateException {
        needCell(column, row);
        if (recorded == NONE) {
            throw new IllegalStateException("no macro is recorded");
        }
        return changeByHand(COPY, column, row, 0);
    }

    /** Returns the value of a cell, as it is kept. */
    public int cell(int column, int row) throws IndexOutOfBoundsException {
        needCell(column, row);
        return cells.valueAt(placeOf(column, row));
    }

    /** Returns the same value, found by making all changes of the audit anew. */
    public int cellByAudit(int column, int row) throws IndexOutOfBoundsException {
        needCell(column, row);
        return audit.valueAnew(placeOf(column, row));
    }

    // ---- macros and grants

    /** Adds a macro without steps and grants; returns its number. */
    public int addMacro() throws IllegalStateException {
        int number = macros.size();
        if (number >= MOST_MACROS) {
            throw new IllegalStateException("there are 6 macros");
        }
        macros.add(new Macro(number));
        return number;
    }

    /** Begins to record a macro; returns the number of steps that are thrown away. */
    public int record(int macro, int column, int row)
            throws IndexOutOfBoundsException, IllegalStateException {
        Macro chosen = neededMacro(macro);
        needCell(column, row);
        if (recorded != NONE) {
            throw new IllegalStateException("a macro is recorded");
        }
        int thrownAway = chosen.stepCount();
        chosen.dropSteps();
        recorded = macro;
        baseColumn = column;
        baseRow = row;
        return thrownAway;
    }

    /** Ends the recording; returns the number of steps that were recorded. */
    public int stop() throws IllegalStateException {
        Macro chosen = macroAt(recorded);
        if (chosen == null) {
            throw new IllegalStateException("no macro is recorded");
        }
        recorded = NONE;
        return chosen.stepCount();
    }

    /** Returns the number of steps of a macro. */
    public int steps(int macro) throws IndexOutOfBoundsException {
        return neededMacro(macro).stepCount();
    }

    /** Grants a range to a macro; returns the number of grants of the macro. */
    public int grant(int macro, int column, int row, int lastColumn, int lastRow)
            throws IndexOutOfBoundsException, IllegalArgumentException, IllegalStateException {
        Macro chosen = neededMacro(macro);
        needCell(column, row);
        needCell(lastColumn, lastRow);
        if (!isRange(column, row, lastColumn, lastRow)) {
            throw new IllegalArgumentException("this is no range");
        }
        if (chosen.grantCount() >= MOST_GRANTS) {
            throw new IllegalStateException("the macro has 4 grants");
        }
        chosen.keepGrant(new Range(column, row, lastColumn, lastRow));
        return chosen.grantCount();
    }

    /** Takes all grants from a macro; returns the number of grants. */
    public int takeGrants(int macro) throws IndexOutOfBoundsException {
        Macro chosen = neededMacro(macro);
        int taken = chosen.grantCount();
        chosen.dropGrants();
        return taken;
    }

    /** Returns to how many macros a cell is granted. */
    public int granted(int column, int row) throws IndexOutOfBoundsException {
        needCell(column, row);
        int count = 0;
        for (int i = 0; i < macros.size(); i++) {
            if (macros.get(i).mayChange(column, row)) {
                count++;
            }
        }
        return count;
    }

    /** Returns why a macro cannot run at a cell: 'o', 'g' or 'v', or '-' if it can. */
    public char reason(int macro, int column, int row) throws IndexOutOfBoundsException {
        Macro chosen = neededMacro(macro);
        needCell(column, row);
        return reasonAgainst(chosen, column, row);
    }

    /** Runs a macro at a cell, by hand; returns the number of changes of the action. */
    public int run(int macro, int column, int row)
            throws IndexOutOfBoundsException, IllegalStateException, UnsupportedOperationException {
        Macro chosen = neededMacro(macro);
        needCell(column, row);
        if (macro == recorded) {
            throw new IllegalStateException("the macro is recorded");
        }
        if (reasonAgainst(chosen, column, row) != CAN_RUN) {
            throw new UnsupportedOperationException("the macro cannot run");
        }
        beginAction();
        makeSteps(chosen, column, row, 0);
        runRules();
        return endAction();
    }

    // ---- rules

    /** Adds a rule; returns its number. */
    public int addRule(int column, int row, int lastColumn, int lastRow, int macro, int rank)
            throws IndexOutOfBoundsException, IllegalArgumentException, IllegalStateException {
        needCell(column, row);
        needCell(lastColumn, lastRow);
        Macro chosen = neededMacro(macro);
        if (!isRange(column, row, lastColumn, lastRow) || !isRank(rank)) {
            throw new IllegalArgumentException("this is no range or no rank");
        }
        int number = rules.size();
        if (number >= MOST_RULES) {
            throw new IllegalStateException("there are 6 rules");
        }
        rules.add(new Rule(new Range(column, row, lastColumn, lastRow), chosen, rank));
        return number;
    }

    /** Sets the rank of a rule; returns the rank before. */
    public int setRank(int rule, int rank)
            throws IndexOutOfBoundsException, IllegalArgumentException {
        Rule chosen = ruleAt(rule);
        if (chosen == null) {
            throw new IndexOutOfBoundsException("no such rule");
        }
        if (!isRank(rank)) {
            throw new IllegalArgumentException("the rank is out of range");
        }
        int before = chosen.rank;
        chosen.rank = rank;
        return before;
    }

    /** Returns the number of the rule for a cell. */
    public int rule(int column, int row) throws IndexOutOfBoundsException, NoSuchElementException {
        needCell(column, row);
        int number = ruleNumberFor(column, row);
        if (number == NONE) {
            throw new NoSuchElementException("no rule is for the cell");
        }
        return number;
    }

    /** Returns how many macros were skipped, in all actions, undone or not. */
    public int skipped() {
        return skippedMacros;
    }

    // ---- audit

    /** Undoes the latest action; returns the number of changes that are undone. */
    public int undo() throws IllegalStateException {
        int start = history.takeLatest();
        if (start == NONE) {
            throw new IllegalStateException("no action can be undone");
        }
        int all = audit.size();
        // Backwards: of several changes of one cell, the first one knows what the cell had.
        for (int entry = all - 1; entry >= start; entry--) {
            cells.put(audit.placeAt(entry), audit.beforeAt(entry));
        }
        audit.cutTo(start);
        return all - start;
    }

    /** Returns the number of entries of the audit. */
    public int entries() {
        return audit.size();
    }

    /** Returns how many entries a macro has, or how many are by hand for -1. */
    public int entriesOf(int macro) throws IndexOutOfBoundsException {
        if (macro != BY_HAND && macroAt(macro) == null) {
            throw new IndexOutOfBoundsException("no such macro");
        }
        return audit.countBy(macro);
    }

    /** Returns the number of the macro that changed a cell last, or -1 by hand. */
    public int lastBy(int column, int row)
            throws IndexOutOfBoundsException, NoSuchElementException {
        needCell(column, row);
        int entry = audit.latestFor(placeOf(column, row));
        if (entry == NONE) {
            throw new NoSuchElementException("no entry is for the cell");
        }
        return audit.makerAt(entry);
    }

    /** Writes a step of a macro as text, in place of the text before; returns its length. */
    public int writeStep(int macro, int step) throws IndexOutOfBoundsException {
        Step chosen = neededMacro(macro).stepAt(step);
        if (chosen == null) {
            throw new IndexOutOfBoundsException("no such step");
        }
        text.setLength(0);
        text.append(chosen.kind);
        writeDistance(chosen.columns);
        writeDistance(chosen.rows);
        if (chosen.kind != COPY) {
            text.append('=');
            text.append(chosen.number);
        }
        return text.length();
    }

    /** Returns a character of the text, which is empty at first. */
    public char textAt(int index) throws IndexOutOfBoundsException {
        if (index < 0 || index >= text.length()) {
            throw new IndexOutOfBoundsException("no such character");
        }
        return text.charAt(index);
    }

    /** Returns the share of the entries that are by macros. */
    public float macroShare() throws ArithmeticException {
        int all = audit.size();
        if (all == 0) {
            throw new ArithmeticException("there are no entries");
        }
        int byMacros = all - audit.countBy(BY_HAND);
        return (float) byMacros / (float) all;
    }

    /** Returns the mean value of all cells that are not 0. */
    public double meanValue() throws ArithmeticException {
        int sum = 0;
        int count = 0;
        for (int place = 0; place < PLACES; place++) {
            int value = cells.valueAt(place);
            if (value != 0) {
                sum += value;
                count++;
            }
        }
        if (count == 0) {
            throw new ArithmeticException("all cells are 0");
        }
        return (double) sum / (double) count;
    }

    // ---- what is asked of arguments

    private static void needCell(int column, int row) {
        if (!isCell(column, row)) {
            throw new IndexOutOfBoundsException("no such cell");
        }
    }

    private Macro neededMacro(int number) {
        Macro macro = macroAt(number);
        if (macro == null) {
            throw new IndexOutOfBoundsException("no such macro");
        }
        return macro;
    }

    private static boolean isCell(int column, int row) {
        return column >= 0 && column < COLUMNS && row >= 0 && row < ROWS;
    }

    private static boolean isRange(int column, int row, int lastColumn, int lastRow) {
        return lastColumn >= column && lastRow >= row;
    }

    private static boolean isValue(int value) {
        return value >= -LARGEST && value <= LARGEST;
    }

    private static boolean isRank(int rank) {
        return rank >= 0 && rank <= HIGHEST_RANK;
    }

    private static int placeOf(int column, int row) {
        return row * COLUMNS + column;
    }

    private Macro macroAt(int number) {
        return number >= 0 && number < macros.size() ? macros.get(number) : null;
    }

    private Rule ruleAt(int number) {
        return number >= 0 && number < rules.size() ? rules.get(number) : null;
    }

    private int ruleNumberFor(int column, int row) {
        int best = NONE;
        int bestRank = -1;
        for (int i = 0; i < rules.size(); i++) {
            Rule rule = rules.get(i);
            // Only a greater rank wins, so that of equal ones the lowest number stays.
            if (rule.rank > bestRank && rule.range.holds(column, row)) {
                best = i;
                bestRank = rule.rank;
            }
        }
        return best;
    }

    // ---- actions

    private int changeByHand(char kind, int column, int row, int number) {
        // Without a recording the distances tell nothing, but then nobody asks for them either.
        Step step = new Step(kind, column - baseColumn, row - baseRow, number);
        Macro macro = macroAt(recorded);
        if (macro != null) {
            macro.keepStep(step);
        }
        beginAction();
        int base = placeOf(baseColumn, baseRow);
        change(placeOf(column, row), step, base, BY_HAND, 0);
        runRules();
        // Only now: as long as the action goes on, the rules do not run the recorded macro.
        if (macro != null && macro.stepCount() >= MOST_STEPS) {
            recorded = NONE;
        }
        return endAction();
    }

    private void beginAction() {
        actionStart = audit.size();
        audit.makeRoom();
    }

    private int endAction() {
        int changes = audit.size() - actionStart;
        if (changes > 0) {
            history.keep(actionStart);
        }
        return changes;
    }

    private void runRules() {
        int runs = 0;
        for (int next = 0; next < depths.length && actionStart + next < audit.size(); next++) {
            int depth = depths[next];
            if (depth < DEPTH_WITHOUT_RULES && runs < MOST_RUNS_BY_RULES
                    && runRuleFor(audit.placeAt(actionStart + next), depth + 1)) {
                runs++;
            }
        }
    }

    /** Tells whether a macro ran; one that is skipped did not. */
    private boolean runRuleFor(int place, int depth) {
        int column = place % COLUMNS;
        int row = place / COLUMNS;
        Rule rule = ruleAt(ruleNumberFor(column, row));
        if (rule == null || rule.macro.number == recorded) {
            return false;
        }
        if (reasonAgainst(rule.macro, column, row) != CAN_RUN) {
            skippedMacros++;
            return false;
        }
        makeSteps(rule.macro, column, row, depth);
        return true;
    }

    /** Makes the steps on a copy of the cells: a macro runs with all of its steps or with none. */
    private char reasonAgainst(Macro macro, int column, int row) {
        trial.copyFrom(cells);
        int base = placeOf(column, row);
        for (int i = 0; i < macro.stepCount(); i++) {
            Step step = macro.stepAt(i);
            if (step == null) {
                continue;
            }
            int stepColumn = column + step.columns;
            int stepRow = row + step.rows;
            if (!isCell(stepColumn, stepRow)) {
                return OUTSIDE;
            }
            if (!macro.mayChange(stepColumn, stepRow)) {
                return NOT_GRANTED;
            }
            int place = placeOf(stepColumn, stepRow);
            int value = step.valueBehind(trial.valueAt(place), trial.valueAt(base));
            if (!isValue(value)) {
                return VALUE;
            }
            trial.put(place, value);
        }
        return CAN_RUN;
    }

    private void makeSteps(Macro macro, int column, int row, int depth) {
        int base = placeOf(column, row);
        for (int i = 0; i < macro.stepCount(); i++) {
            Step step = macro.stepAt(i);
            if (step != null) {
                int place = placeOf(column + step.columns, row + step.rows);
                change(place, step, base, macro.number, depth);
            }
        }
    }

    private void change(int place, Step step, int base, int maker, int depth) {
        int before = cells.valueAt(place);
        int behind = step.valueBehind(before, cells.valueAt(base));
        int inAction = audit.size() - actionStart;
        // Beyond the 512 calls the audit may be full: then a change is refused, never half made.
        if (behind == before || inAction < 0 || inAction >= depths.length || audit.isFull()) {
            return;
        }
        depths[inAction] = depth;
        audit.note(place, before, behind, maker);
        cells.put(place, behind);
    }

    private void writeDistance(int distance) {
        text.append(distance < 0 ? '-' : '+');
        text.append(Math.abs(distance));
    }

    // ---- what the sheet is made of

    /** The values of all cells, row by row. */
    private static final class Cells {
        private final int[] values;

        Cells() {
            values = new int[PLACES];
        }

        int valueAt(int place) {
            return isPlace(place) ? values[place] : 0;
        }

        void put(int place, int value) {
            if (isPlace(place)) {
                values[place] = value;
            }
        }

        void copyFrom(Cells other) {
            System.arraycopy(other.values, 0, values, 0, PLACES);
        }

        private boolean isPlace(int place) {
            return place >= 0 && place < values.length;
        }
    }

    /** All cells between two cells, both included. */
    private static final class Range {
        private final int column;
        private final int row;
        private final int lastColumn;
        private final int lastRow;

        Range(int column, int row, int lastColumn, int lastRow) {
            this.column = column;
            this.row = row;
            this.lastColumn = lastColumn;
            this.lastRow = lastRow;
        }

        boolean holds(int someColumn, int someRow) {
            return someColumn >= column && someColumn <= lastColumn
                    && someRow >= row && someRow <= lastRow;
        }
    }

    /** A change of a cell that is told by its distance from a base cell. */
    private static final class Step {
        private final char kind;
        private final int columns;
        private final int rows;
        private final int number;

        Step(char kind, int columns, int rows, int number) {
            this.kind = kind;
            this.columns = columns;
            this.rows = rows;
            this.number = number;
        }

        int valueBehind(int before, int base) {
            if (kind == COPY) {
                return base;
            }
            return kind == ADD ? before + number : number;
        }
    }

    /** A macro with its steps and its grants. */
    private static final class Macro {
        private final int number;
        private final ArrayList<Step> stepList;
        private final ArrayList<Range> grantList;

        Macro(int number) {
            this.number = number;
            stepList = new ArrayList<>();
            grantList = new ArrayList<>();
        }

        int stepCount() {
            return stepList.size();
        }

        Step stepAt(int index) {
            return index >= 0 && index < stepList.size() ? stepList.get(index) : null;
        }

        void keepStep(Step step) {
            if (stepList.size() < MOST_STEPS) {
                stepList.add(step);
            }
        }

        void dropSteps() {
            stepList.clear();
        }

        int grantCount() {
            return grantList.size();
        }

        void keepGrant(Range range) {
            if (grantList.size() < MOST_GRANTS) {
                grantList.add(range);
            }
        }

        void dropGrants() {
            grantList.clear();
        }

        boolean mayChange(int column, int row) {
            for (int i = 0; i < grantList.size(); i++) {
                if (grantList.get(i).holds(column, row)) {
                    return true;
                }
            }
            return false;
        }
    }

    /** A rule that runs a macro when a cell of its range changes. */
    private static final class Rule {
        private final Range range;
        private final Macro macro;
        private int rank;

        Rule(Range range, Macro macro, int rank) {
            this.range = range;
            this.macro = macro;
            this.rank = rank;
        }
    }

    /** The entries of all changes that were not undone, the oldest one first. */
    private static final class Audit {
        private int[] places;
        private int[] befores;
        private int[] behinds;
        private int[] makers;
        private int count;

        Audit() {
            places = new int[MOST_CHANGES];
            befores = new int[MOST_CHANGES];
            behinds = new int[MOST_CHANGES];
            makers = new int[MOST_CHANGES];
        }

        int size() {
            return count;
        }

        boolean isFull() {
            return count >= places.length;
        }

        /**
         * Makes room for one action more. Twice the length is enough, as no length is below that
         * of an action; and doubling copies each entry but once or twice in all.
         */
        void makeRoom() {
            int length = places.length;
            if (count + MOST_CHANGES <= length || length >= MOST_ENTRIES) {
                return;
            }
            places = Arrays.copyOf(places, 2 * length);
            befores = Arrays.copyOf(befores, 2 * length);
            behinds = Arrays.copyOf(behinds, 2 * length);
            makers = Arrays.copyOf(makers, 2 * length);
        }

        void note(int place, int before, int behind, int maker) {
            if (count < 0 || count >= places.length) {
                return;
            }
            places[count] = place;
            befores[count] = before;
            behinds[count] = behind;
            makers[count] = maker;
            count++;
        }

        void cutTo(int start) {
            if (start >= 0 && start < count) {
                count = start;
            }
        }

        int placeAt(int entry) {
            return entry >= 0 && entry < count ? places[entry] : 0;
        }

        int beforeAt(int entry) {
            return entry >= 0 && entry < count ? befores[entry] : 0;
        }

        int makerAt(int entry) {
            return entry >= 0 && entry < count ? makers[entry] : BY_HAND;
        }

        int valueAnew(int place) {
            int value = 0;
            for (int entry = 0; entry < count; entry++) {
                if (places[entry] == place) {
                    value = behinds[entry];
                }
            }
            return value;
        }

        int countBy(int maker) {
            int found = 0;
            for (int entry = 0; entry < count; entry++) {
                if (makers[entry] == maker) {
                    found++;
                }
            }
            return found;
        }

        int latestFor(int place) {
            for (int entry = count - 1; entry >= 0; entry--) {
                if (places[entry] == place) {
                    return entry;
                }
            }
            return NONE;
        }
    }

    /** Where in the audit each of the actions begins that can be undone, the oldest one first. */
    private static final class History {
        private final int[] starts;
        private int count;

        History() {
            starts = new int[MOST_UNDOS];
        }

        void keep(int start) {
            if (count >= MOST_UNDOS) {
                System.arraycopy(starts, 1, starts, 0, MOST_UNDOS - 1);
                count = MOST_UNDOS - 1;
            }
            starts[count] = start;
            count++;
        }

        /** Returns NONE if no action can be undone. */
        int takeLatest() {
            if (count <= 0) {
                return NONE;
            }
            count--;
            return starts[count];
        }
    }
}
