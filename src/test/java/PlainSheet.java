import java.util.ArrayDeque;
import java.util.ArrayList;
import java.util.Deque;
import java.util.List;
import java.util.NoSuchElementException;

/**
 * The document a second time, as plainly as it can be said, for runs that are drawn at random: it
 * keeps whole copies where the class keeps starts, and counts anew where the class counts on.
 */
final class PlainSheet {
    private record Entry(int column, int row, int before, int behind, int macro) {
    }

    private record Step(char kind, int columns, int rows, int number) {
    }

    private record Range(int column, int row, int lastColumn, int lastRow) {
        boolean has(int c, int r) {
            return column <= c && c <= lastColumn && row <= r && r <= lastRow;
        }
    }

    private record Waiting(int column, int row, int depth) {
    }

    private static final class Rule {
        Range range;
        int macro;
        int rank;
    }

    private static final class Macro {
        List<Step> steps = new ArrayList<>();
        List<Range> grants = new ArrayList<>();
    }

    private record State(int[][] values, List<Entry> audit) {
    }

    private int[][] values = new int[6][8];
    private List<Entry> audit = new ArrayList<>();
    private final List<Macro> macros = new ArrayList<>();
    private final List<Rule> rules = new ArrayList<>();
    private final Deque<State> undoable = new ArrayDeque<>();
    private final Deque<Waiting> queue = new ArrayDeque<>();
    private String text = "";
    private int recorded = -1;
    private int baseColumn;
    private int baseRow;
    private int skippedCount;

    int set(int column, int row, int value) {
        cellOrThrow(column, row);
        if (Math.abs((long) value) > 9999) {
            throw new IllegalArgumentException();
        }
        return byHand('s', column, row, value, value);
    }

    int add(int column, int row, int number) {
        cellOrThrow(column, row);
        long sum = (long) values[column][row] + number;
        if (Math.abs((long) number) > 9999 || Math.abs(sum) > 9999) {
            throw new IllegalArgumentException();
        }
        return byHand('a', column, row, number, (int) sum);
    }

    int copyBase(int column, int row) {
        cellOrThrow(column, row);
        if (recorded < 0) {
            throw new IllegalStateException();
        }
        return byHand('c', column, row, 0, values[baseColumn][baseRow]);
    }

    int cell(int column, int row) {
        cellOrThrow(column, row);
        return values[column][row];
    }

    int cellByAudit(int column, int row) {
        cellOrThrow(column, row);
        int[][] anew = new int[6][8];
        for (Entry entry : audit) {
            anew[entry.column][entry.row] = entry.behind;
        }
        return anew[column][row];
    }

    int addMacro() {
        if (macros.size() == 6) {
            throw new IllegalStateException();
        }
        macros.add(new Macro());
        return macros.size() - 1;
    }

    int record(int macro, int column, int row) {
        Macro m = macroOrThrow(macro);
        cellOrThrow(column, row);
        if (recorded >= 0) {
            throw new IllegalStateException();
        }
        int gone = m.steps.size();
        m.steps = new ArrayList<>();
        recorded = macro;
        baseColumn = column;
        baseRow = row;
        return gone;
    }

    int stop() {
        if (recorded < 0) {
            throw new IllegalStateException();
        }
        int count = macros.get(recorded).steps.size();
        recorded = -1;
        return count;
    }

    int steps(int macro) {
        return macroOrThrow(macro).steps.size();
    }

    int grant(int macro, int column, int row, int lastColumn, int lastRow) {
        Macro m = macroOrThrow(macro);
        cellOrThrow(column, row);
        cellOrThrow(lastColumn, lastRow);
        if (lastColumn < column || lastRow < row) {
            throw new IllegalArgumentException();
        }
        if (m.grants.size() == 4) {
            throw new IllegalStateException();
        }
        m.grants.add(new Range(column, row, lastColumn, lastRow));
        return m.grants.size();
    }

    int takeGrants(int macro) {
        Macro m = macroOrThrow(macro);
        int count = m.grants.size();
        m.grants.clear();
        return count;
    }

    int granted(int column, int row) {
        cellOrThrow(column, row);
        return (int) macros.stream().filter(m -> hasGrant(m, column, row)).count();
    }

    char reason(int macro, int column, int row) {
        Macro m = macroOrThrow(macro);
        cellOrThrow(column, row);
        return why(m, column, row);
    }

    int run(int macro, int column, int row) {
        Macro m = macroOrThrow(macro);
        cellOrThrow(column, row);
        if (recorded == macro) {
            throw new IllegalStateException();
        }
        if (why(m, column, row) != '-') {
            throw new UnsupportedOperationException();
        }
        State before = state();
        make(macro, column, row, 0);
        return finish(before);
    }

    int addRule(int column, int row, int lastColumn, int lastRow, int macro, int rank) {
        cellOrThrow(column, row);
        cellOrThrow(lastColumn, lastRow);
        macroOrThrow(macro);
        if (lastColumn < column || lastRow < row || rank < 0 || rank > 9) {
            throw new IllegalArgumentException();
        }
        if (rules.size() == 6) {
            throw new IllegalStateException();
        }
        Rule rule = new Rule();
        rule.range = new Range(column, row, lastColumn, lastRow);
        rule.macro = macro;
        rule.rank = rank;
        rules.add(rule);
        return rules.size() - 1;
    }

    int setRank(int rule, int rank) {
        if (rule < 0 || rule >= rules.size()) {
            throw new IndexOutOfBoundsException();
        }
        if (rank < 0 || rank > 9) {
            throw new IllegalArgumentException();
        }
        int before = rules.get(rule).rank;
        rules.get(rule).rank = rank;
        return before;
    }

    int rule(int column, int row) {
        cellOrThrow(column, row);
        for (int rank = 9; rank >= 0; rank--) {
            for (int i = 0; i < rules.size(); i++) {
                if (rules.get(i).rank == rank && rules.get(i).range.has(column, row)) {
                    return i;
                }
            }
        }
        throw new NoSuchElementException();
    }

    int skipped() {
        return skippedCount;
    }

    int undo() {
        if (undoable.isEmpty()) {
            throw new IllegalStateException();
        }
        State back = undoable.removeLast();
        int count = audit.size() - back.audit.size();
        values = back.values;
        audit = back.audit;
        return count;
    }

    int entries() {
        return audit.size();
    }

    int entriesOf(int macro) {
        if (macro != -1) {
            macroOrThrow(macro);
        }
        return (int) audit.stream().filter(entry -> entry.macro == macro).count();
    }

    int lastBy(int column, int row) {
        cellOrThrow(column, row);
        Entry last = null;
        for (Entry entry : audit) {
            if (entry.column == column && entry.row == row) {
                last = entry;
            }
        }
        if (last == null) {
            throw new NoSuchElementException();
        }
        return last.macro;
    }

    int writeStep(int macro, int step) {
        Macro m = macroOrThrow(macro);
        if (step < 0 || step >= m.steps.size()) {
            throw new IndexOutOfBoundsException();
        }
        Step s = m.steps.get(step);
        text = s.kind + String.format("%+d%+d", s.columns, s.rows)
                + (s.kind == 'c' ? "" : "=" + s.number);
        return text.length();
    }

    char textAt(int index) {
        if (index < 0 || index >= text.length()) {
            throw new IndexOutOfBoundsException();
        }
        return text.charAt(index);
    }

    float macroShare() {
        if (audit.isEmpty()) {
            throw new ArithmeticException();
        }
        long count = audit.stream().filter(entry -> entry.macro >= 0).count();
        return (float) count / (float) audit.size();
    }

    double meanValue() {
        double sum = 0;
        double count = 0;
        for (int[] column : values) {
            for (int value : column) {
                sum += value;
                count += value == 0 ? 0 : 1;
            }
        }
        if (count == 0) {
            throw new ArithmeticException();
        }
        return sum / count;
    }

    private int byHand(char kind, int column, int row, int number, int behind) {
        if (recorded >= 0) {
            macros.get(recorded).steps.add(
                    new Step(kind, column - baseColumn, row - baseRow, number));
        }
        State before = state();
        change(column, row, behind, -1, 0);
        int count = finish(before);
        if (recorded >= 0 && macros.get(recorded).steps.size() == 10) {
            recorded = -1;
        }
        return count;
    }

    private int finish(State before) {
        int runs = 0;
        while (!queue.isEmpty()) {
            Waiting first = queue.removeFirst();
            Rule rule;
            try {
                rule = rules.get(rule(first.column, first.row));
            } catch (NoSuchElementException none) {
                continue;
            }
            if (first.depth >= 3 || rule.macro == recorded || runs >= 20) {
                continue;
            }
            if (why(macros.get(rule.macro), first.column, first.row) != '-') {
                skippedCount++;
                continue;
            }
            runs++;
            make(rule.macro, first.column, first.row, first.depth + 1);
        }
        int count = audit.size() - before.audit.size();
        if (count > 0) {
            undoable.addLast(before);
            if (undoable.size() > 8) {
                undoable.removeFirst();
            }
        }
        return count;
    }

    private void make(int macro, int column, int row, int depth) {
        for (Step s : macros.get(macro).steps) {
            int c = column + s.columns;
            int r = row + s.rows;
            int behind = s.kind == 's' ? s.number
                    : s.kind == 'a' ? values[c][r] + s.number : values[column][row];
            change(c, r, behind, macro, depth);
        }
    }

    private void change(int column, int row, int behind, int macro, int depth) {
        if (values[column][row] != behind) {
            audit.add(new Entry(column, row, values[column][row], behind, macro));
            queue.addLast(new Waiting(column, row, depth));
            values[column][row] = behind;
        }
    }

    private char why(Macro m, int column, int row) {
        int[][] tried = copyOf(values);
        for (Step s : m.steps) {
            int c = column + s.columns;
            int r = row + s.rows;
            if (c < 0 || c > 5 || r < 0 || r > 7) {
                return 'o';
            }
            if (!hasGrant(m, c, r)) {
                return 'g';
            }
            tried[c][r] = s.kind == 's' ? s.number
                    : s.kind == 'a' ? tried[c][r] + s.number : tried[column][row];
            if (Math.abs(tried[c][r]) > 9999) {
                return 'v';
            }
        }
        return '-';
    }

    private State state() {
        return new State(copyOf(values), new ArrayList<>(audit));
    }

    private static boolean hasGrant(Macro m, int column, int row) {
        return m.grants.stream().anyMatch(range -> range.has(column, row));
    }

    private static int[][] copyOf(int[][] table) {
        int[][] copy = new int[table.length][];
        for (int i = 0; i < table.length; i++) {
            copy[i] = table[i].clone();
        }
        return copy;
    }

    private static void cellOrThrow(int column, int row) {
        if (column < 0 || column > 5 || row < 0 || row > 7) {
            throw new IndexOutOfBoundsException();
        }
    }

    private Macro macroOrThrow(int macro) {
        if (macro < 0 || macro >= macros.size()) {
            throw new IndexOutOfBoundsException();
        }
        return macros.get(macro);
    }
}
