import java.lang.reflect.InvocationTargetException;
import java.lang.reflect.Method;
import java.util.Arrays;
import java.util.Random;

/** Runs of 512 calls, drawn from numbered seeds, on the class and on PlainSheet side by side. */
final class RandomRunsTest {
    // Where the arguments of a call are drawn.
    private static final int COLUMN = 0;
    private static final int ROW = 1;
    private static final int LAST_COLUMN = 2;
    private static final int LAST_ROW = 3;
    private static final int MACRO = 4;
    private static final int VALUE = 5;
    private static final int RANK = 6;
    private static final int INDEX = 7;
    private static final int RULE = 8;
    private static final int MAKER = 9;
    private static final int KINDS = 10;

    /** A call of the face; often tells how often it is drawn. */
    private record Call(int often, String name, int... kinds) {
    }

    private static final Call[] CALLS = {
        new Call(14, "set", COLUMN, ROW, VALUE),
        new Call(22, "add", COLUMN, ROW, VALUE),
        new Call(8, "copyBase", COLUMN, ROW),
        new Call(6, "cell", COLUMN, ROW),
        new Call(6, "cellByAudit", COLUMN, ROW),
        new Call(5, "addMacro"),
        new Call(6, "record", MACRO, COLUMN, ROW),
        new Call(2, "stop"),
        new Call(2, "steps", MACRO),
        new Call(7, "grant", MACRO, COLUMN, ROW, LAST_COLUMN, LAST_ROW),
        new Call(1, "takeGrants", MACRO),
        new Call(2, "granted", COLUMN, ROW),
        new Call(6, "reason", MACRO, COLUMN, ROW),
        new Call(22, "run", MACRO, COLUMN, ROW),
        new Call(6, "addRule", COLUMN, ROW, LAST_COLUMN, LAST_ROW, MACRO, RANK),
        new Call(4, "setRank", RULE, RANK),
        new Call(3, "rule", COLUMN, ROW),
        new Call(3, "skipped"),
        new Call(8, "undo"),
        new Call(4, "entries"),
        new Call(4, "entriesOf", MAKER),
        new Call(4, "lastBy", COLUMN, ROW),
        new Call(3, "writeStep", MACRO, INDEX),
        new Call(3, "textAt", INDEX),
        new Call(2, "macroShare"),
        new Call(2, "meanValue"),
    };

    private RandomRunsTest() {
    }

    static void promise01To27RunsAnswerAsThePlainSheet() {
        for (int seed = 0; seed < 1500; seed++) {
            compare(seed, 40);
        }
    }

    static void promise01To27RunsWithWrongArgumentsAnswerAsThePlainSheet() {
        for (int seed = 0; seed < 500; seed++) {
            compare(seed, 4);
        }
    }

    static void nothingThrowsByItselfBeyondTheLastCall() {
        for (int seed = 0; seed < 20; seed++) {
            Random random = new Random(seed);
            MacroSheet x = new MacroSheet();
            for (int i = 0; i < 6000; i++) {
                Call call = draw(random);
                Object[] a = argumentsOf(call, random, i % 500 < 30 ? 3 : 60);
                String got = Checks.outcome(() -> ask(x, call, a));
                Checks.due(false, got.contains("machine"));
            }
        }
    }

    private static void compare(int seed, int wrongIn) {
        Random random = new Random(seed);
        MacroSheet x = new MacroSheet();
        PlainSheet y = new PlainSheet();
        for (int i = 0; i < 512; i++) {
            Call call = draw(random);
            Object[] a = argumentsOf(call, random, wrongIn);
            String want = Checks.outcome(() -> ask(y, call, a));
            String got = Checks.outcome(() -> ask(x, call, a));
            if (!want.equals(got)) {
                throw new AssertionError("seed " + seed + ", call " + i + ": " + call.name
                        + Arrays.toString(a) + " is due " + want + ", got " + got);
            }
        }
    }

    private static Call draw(Random random) {
        int all = 0;
        for (Call call : CALLS) {
            all += call.often;
        }
        int left = random.nextInt(all);
        for (Call call : CALLS) {
            left -= call.often;
            if (left < 0) {
                return call;
            }
        }
        throw new AssertionError("no call was drawn");
    }

    /** Draws the arguments; in one of some draws, one of them may be wrong. */
    private static Object[] argumentsOf(Call call, Random random, int wrongIn) {
        int[] drawn = new int[KINDS];
        int column = random.nextInt(6);
        int row = random.nextInt(8);
        drawn[COLUMN] = column;
        drawn[ROW] = row;
        boolean toTheEnd = random.nextInt(3) == 0;
        drawn[LAST_COLUMN] = toTheEnd ? 5 : column + random.nextInt(6 - column);
        drawn[LAST_ROW] = toTheEnd ? 7 : row + random.nextInt(8 - row);
        drawn[MACRO] = random.nextInt(4);
        drawn[VALUE] = value(random);
        drawn[RANK] = random.nextInt(10);
        drawn[INDEX] = random.nextInt(8);
        drawn[RULE] = random.nextInt(4);
        drawn[MAKER] = random.nextInt(5) - 1;
        if (random.nextInt(wrongIn) == 0) {
            int[] wrong = {-1, -2, 6, 8, 10, 10000, -10000, Integer.MIN_VALUE, Integer.MAX_VALUE,
                column - 1, row - 1};
            drawn[random.nextInt(KINDS)] = wrong[random.nextInt(wrong.length)];
        }
        Object[] arguments = new Object[call.kinds.length];
        for (int i = 0; i < arguments.length; i++) {
            arguments[i] = drawn[call.kinds[i]];
        }
        return arguments;
    }

    private static int value(Random random) {
        switch (random.nextInt(8)) {
            case 0:
                return random.nextInt(19999) - 9999;
            case 1:
                return 9999 - random.nextInt(3);
            case 2:
                return random.nextInt(3) - 9999;
            default:
                return random.nextInt(7) - 3;
        }
    }

    private static Object ask(Object sheet, Call call, Object[] arguments) {
        Class<?>[] types = new Class<?>[arguments.length];
        Arrays.fill(types, int.class);
        try {
            Method method = sheet.getClass().getDeclaredMethod(call.name, types);
            return method.invoke(sheet, arguments);
        } catch (InvocationTargetException thrown) {
            if (thrown.getCause() instanceof RuntimeException cause) {
                throw cause;
            }
            throw new AssertionError(thrown.getCause());
        } catch (ReflectiveOperationException unknown) {
            throw new AssertionError(unknown);
        }
    }
}
