import java.io.IOException;
import java.lang.reflect.Field;
import java.lang.reflect.Method;
import java.lang.reflect.Modifier;
import java.nio.charset.StandardCharsets;
import java.nio.file.Files;
import java.nio.file.Path;
import java.util.Comparator;
import java.util.List;
import java.util.regex.Matcher;
import java.util.regex.Pattern;
import java.util.spi.ToolProvider;
import java.util.stream.Collectors;
import java.util.stream.Stream;

/** README.md says what is so: its program prints what it says, its tables name what there is. Run in the project's folder. */
public final class ReadmeTest {
    private static final Path PAGE = Path.of("README.md");
    private static final Path DOCUMENT = Path.of("../shared/DOC.md");
    private static final Path PROGRAM = Path.of("src/main/java/LeaningLines.java");
    private static final Path TESTS = Path.of("src/test/java");
    private static final Pattern ERROR = Pattern.compile("(?<!\\w)(?:NO_SUCH|BAD_VALUE|BAD_TEXT|TOO_MANY|NOT_POSSIBLE)(?!\\w)");

    private static final Checks CHECKS = new Checks("ReadmeTest");

    public static void main(String[] args) throws IOException, InterruptedException {
        String page = Files.readString(PAGE);
        example(page);
        String document = Files.readString(DOCUMENT);
        constants(page);
        settings(page, document);
        calls(page, document);
        tests(page);
        CHECKS.end();
    }

    /** What stands between a line of three backquotes with this word and the next such line. */
    private static String block(String page, String word) {
        Matcher matcher = Pattern.compile("(?ms)^```" + word + "\\n(.*?)^```$").matcher(page);
        boolean found = matcher.find();
        CHECKS.check(found, "there is no block of " + word);
        String block = found ? matcher.group(1) : "";
        CHECKS.check(found && !matcher.find(), "there are several blocks of " + word);
        return block;
    }

    private static void example(String page) throws IOException, InterruptedException {
        Path folder = Files.createTempDirectory("readme");
        try {
            Path example = Files.writeString(folder.resolve("Example.java"), block(page, "java"));
            int code = ToolProvider.findFirst("javac").orElseThrow().run(System.out, System.out, "-Xlint:all", "-Werror", "-d",
                    folder.resolve("out").toString(), PROGRAM.toString(), example.toString());
            CHECKS.check(code == 0, "the program does not compile");
            if (code == 0) {
                String printed = printed(folder.resolve("out"));
                CHECKS.check(printed.equals(block(page, "text")), "the program prints\n" + printed);
            }
        } finally {
            remove(folder);
        }
    }

    private static String printed(Path classes) throws IOException, InterruptedException {
        Path java = Path.of(System.getProperty("java.home"), "bin", "java");
        Process process = new ProcessBuilder(java.toString(), "-cp", classes.toString(), "Example")
                .redirectErrorStream(true).start();
        String printed = new String(process.getInputStream().readAllBytes(), StandardCharsets.UTF_8);
        CHECKS.check(process.waitFor() == 0, "the program ends with an error");
        return printed;
    }

    private static void remove(Path folder) throws IOException {
        try (Stream<Path> all = Files.walk(folder)) {
            for (Path one : all.sorted(Comparator.reverseOrder()).toList()) {
                Files.delete(one);
            }
        }
    }

    /** Each constant has one row, with its value. */
    private static void constants(String page) {
        for (Field field : LeaningLines.class.getFields()) {
            long rows = page.lines().filter(line -> line.startsWith("| `" + field.getName() + "` | " + valueOf(field) + " |"))
                    .count();
            CHECKS.check(rows == 1, field.getName() + " has " + rows + " rows with its value");
        }
    }

    private static int valueOf(Field field) {
        try {
            return field.getInt(null);
        } catch (IllegalAccessException thrown) {
            throw new IllegalStateException(thrown);
        }
    }

    /** The document says "LINE (0 to 9; 2)": the range and the first value. */
    private static void settings(String page, String document) {
        Matcher matcher = Pattern.compile("(LINE|EXPOSE|FLICKER|JOIN) \\((\\d+ to \\d+); (\\d+)\\)").matcher(document);
        int many = 0;
        while (matcher.find()) {
            many++;
            String row = "\n| `" + matcher.group(1) + "` | " + (many - 1) + " | " + matcher.group(2) + " | " + matcher.group(3) + " |";
            CHECKS.check(page.contains(row), "there is no row" + row);
        }
        CHECKS.check(many == 4, "the document has " + many + " settings");
    }

    /** Each call has one row, with its arguments, and with its errors in the order in which the document names them. */
    private static void calls(String page, String document) {
        for (Method method : LeaningLines.class.getDeclaredMethods()) {
            if (!Modifier.isPublic(method.getModifiers())) {
                continue;
            }
            String form = form(document, method);
            List<String> rows = page.lines().filter(line -> line.startsWith("| `" + form + "` |")).toList();
            CHECKS.check(rows.size() == 1, form + " has " + rows.size() + " rows");
            for (String row : rows) {
                String errors = row.replaceAll(".*\\|([^|]*)\\|$", "$1");
                CHECKS.check(errors(errors).equals(errors(promise(document, method))), "the errors of " + form + " are "
                        + errors(promise(document, method)));
                CHECKS.check(errors.strip().equals(String.join(", ", errors(errors))), form + " ends with " + errors);
            }
        }
    }

    /** How the document calls it, without the types. */
    private static String form(String document, Method method) {
        Matcher matcher = Pattern.compile("public int " + method.getName() + "\\(([^)]*)\\);").matcher(document);
        CHECKS.check(matcher.find(), "the document has no " + method.getName());
        return method.getName() + "(" + matcher.group(1).replaceAll("(?:int|long) ", "") + ")";
    }

    private static String promise(String document, Method method) {
        Matcher matcher = Pattern.compile("(?ms)^## Promise \\d+: " + method.getName() + "$(.*?)(?=^## |\\z)").matcher(document);
        CHECKS.check(matcher.find(), "the document promises no " + method.getName());
        return matcher.group(1);
    }

    private static List<String> errors(String text) {
        return ERROR.matcher(text).results().map(one -> one.group()).collect(Collectors.toList());
    }

    private static void tests(String page) throws IOException {
        try (Stream<Path> files = Files.list(TESTS)) {
            List<String> there = files.map(one -> one.getFileName().toString()).filter(one -> one.endsWith("Test.java"))
                    .map(one -> one.substring(0, one.indexOf('.'))).sorted().toList();
            Matcher matcher = Pattern.compile("(?m)^\\| `(\\w+Test)` \\|").matcher(page);
            List<String> told = matcher.results().map(one -> one.group(1)).sorted().toList();
            CHECKS.check(there.equals(told), "the tests are " + there + ", told are " + told);
        }
    }
}
