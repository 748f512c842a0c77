import java.io.IOException;
import java.lang.reflect.Field;
import java.lang.reflect.Method;
import java.lang.reflect.Modifier;
import java.nio.file.Files;
import java.nio.file.Path;
import java.util.Arrays;
import java.util.List;
import java.util.Set;
import java.util.regex.Matcher;
import java.util.regex.Pattern;

/** The rules of LANGUAGE.md that can be told from the text of the class or from its members. */
final class LanguageTest {
    private static final Path SOURCE = Path.of("src/main/java/MacroSheet.java");
    private static final Set<String> IMPORTS = Set.of("java.util.ArrayList", "java.util.Arrays",
            "java.util.Iterator", "java.util.List", "java.util.NoSuchElementException");
    private static final Set<String> THROWN = Set.of("IllegalStateException",
            "IllegalArgumentException", "IndexOutOfBoundsException", "ArithmeticException",
            "UnsupportedOperationException", "NoSuchElementException");
    private static final String[] FORBIDDEN = {"->", "::", "\\bfinally\\b", "\\bcatch\\b",
        "\\bsynchronized\\b", "\\bassert\\b", "\\bvolatile\\b", "\\bstatic \\{", "Exact\\(",
        "\\bThread\\b", "\\bRandom\\b", "\\bSystem\\.(?!arraycopy\\()", "\\bjava\\.(?!util\\.)",
        "\\.(equals|hashCode|toString|getClass|getMessage|stream)\\(", "\\bwhile \\(true"};

    private LanguageTest() {
    }

    // "The program is one file .. without a package line", and rule 4 on the library
    static void theFileHasNoPackageAndImportsWhatIsListed() throws IOException {
        for (String line : Files.readAllLines(SOURCE)) {
            Checks.due(false, line.startsWith("package"));
            if (line.startsWith("import")) {
                String name = line.substring("import ".length(), line.length() - 1);
                Checks.due(true, IMPORTS.contains(name));
            }
        }
    }

    // Rules 4 and 6: "constants, whose signs are 1 to 127", and what is thrown
    static void theTextIsPlain() throws IOException {
        String source = Files.readString(SOURCE);
        Checks.due(true, source.chars().allMatch(sign -> sign >= 1 && sign <= 127));
        Matcher thrown = Pattern.compile("\\bthrow\\b([^;]*);").matcher(code());
        int count = 0;
        while (thrown.find()) {
            count++;
            Matcher name = Pattern.compile(" new (\\w+)\\(\"[^\"]+\"\\)").matcher(thrown.group(1));
            Checks.due(true, name.matches() && THROWN.contains(name.group(1)));
        }
        Checks.due(true, count > 0);
    }

    // Rules 3, 4, 6, 9 and 13: words that the program does without
    static void theTextHasNoForbiddenWord() throws IOException {
        String code = code();
        for (String word : FORBIDDEN) {
            Matcher found = Pattern.compile(word).matcher(code);
            if (found.find()) {
                throw new AssertionError("the class says " + found.group());
            }
        }
    }

    // Rule 5: "constants of int, long, boolean, char or String"
    static void staticFieldsAreConstants() {
        Set<Class<?>> types = Set.of(int.class, long.class, boolean.class, char.class,
                String.class);
        for (Class<?> type : Checks.ownClasses()) {
            for (Field field : type.getDeclaredFields()) {
                Checks.due(true, !Modifier.isStatic(field.getModifiers())
                        || types.contains(field.getType()));
            }
        }
    }

    // Rule 11: parameters, fields and classes
    static void membersAreFew() {
        List<Class<?>> classes = Checks.ownClasses();
        Checks.due(true, classes.size() <= 12);
        for (Class<?> type : classes) {
            for (Method method : type.getDeclaredMethods()) {
                Checks.due(true, method.getParameterCount() <= 7);
            }
            long fields = Arrays.stream(type.getDeclaredFields())
                    .filter(field -> !Modifier.isStatic(field.getModifiers())).count();
            Checks.due(true, fields <= 20);
        }
    }

    // Rule 11: "Methods stay short (some sixty lines)"
    static void methodsAreShort() throws IOException {
        int length = 0;
        for (String line : Files.readAllLines(SOURCE)) {
            length = line.isBlank() ? 0 : length + 1;
            Checks.due(true, length <= 60);
        }
    }

    /** The text of the class without its comments. */
    private static String code() throws IOException {
        return Files.readString(SOURCE).replaceAll("(?s)/\\*.*?\\*/", "")
                .replaceAll("//[^\n]*", "");
    }
}
