import java.io.IOException;
import java.nio.file.Files;
import java.nio.file.Path;
import java.util.List;

/** What README.md says of the use of the class. */
final class ReadmeTest {
    private static final List<String> CALLS = List.of(
            "sheet.addMacro();", "sheet.record(0, 2, 3);", "sheet.set(2, 3, 7);",
            "sheet.copyBase(3, 3);", "sheet.stop();", "sheet.grant(0, 0, 0, 5, 7);",
            "sheet.addRule(0, 0, 0, 7, 0, 5);", "sheet.set(0, 0, 1);", "sheet.undo();");

    private ReadmeTest() {
    }

    static void theExampleAnswersAsItSays() {
        MacroSheet sheet = new MacroSheet();
        Checks.due(0, sheet.addMacro());
        Checks.due(0, sheet.record(0, 2, 3));
        Checks.due(1, sheet.set(2, 3, 7));
        Checks.due("s+0+0=7", Checks.written(sheet, 0, 0));
        Checks.due(1, sheet.copyBase(3, 3));
        Checks.due("c+1+0", Checks.written(sheet, 0, 1));
        Checks.due(2, sheet.stop());
        Checks.due(1, sheet.grant(0, 0, 0, 5, 7));
        Checks.due(0, sheet.addRule(0, 0, 0, 7, 0, 5));
        Checks.due(3, sheet.set(0, 0, 1));
        Checks.due(3, sheet.undo());
        Checks.due(0, sheet.cell(0, 0));
        Checks.due(7, sheet.cell(3, 3));
    }

    static void theExampleIsTheOneOfTheReadme() throws IOException {
        List<String> told = Files.readAllLines(Path.of("README.md")).stream()
                .filter(line -> line.startsWith("sheet."))
                .map(line -> line.replaceAll(" *//.*", "")).toList();
        Checks.due(CALLS, told);
    }

    static void theReadmeNamesEveryTestClass() throws IOException {
        String told = Files.readString(Path.of("README.md"));
        for (Class<?> test : AllTests.tests()) {
            if (!told.contains("`" + test.getSimpleName() + "`")) {
                throw new AssertionError("README.md does not name " + test.getSimpleName());
            }
        }
    }
}
