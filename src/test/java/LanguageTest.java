import java.io.IOException;
import java.lang.reflect.Field;
import java.lang.reflect.Modifier;
import java.nio.file.Files;
import java.nio.file.Path;
import java.util.ArrayList;
import java.util.List;
import java.util.Set;
import java.util.regex.Matcher;
import java.util.regex.Pattern;
import java.util.stream.Collectors;

/** What of ../shared/LANGUAGE.md can be seen in the words of the program's file. It is run from the project's folder. */
public final class LanguageTest {
    private static final Path FILE = Path.of("src/main/java/LeaningLines.java");
    private static final String[] WORDS = {"throw", "throws", "try", "catch", "finally", "synchronized", "assert", "yield",
        "package", "native", "volatile", "transient", "protected", "hashCode", "toString", "System\\.out", "System\\.err",
        "System\\.nanoTime", "System\\.currentTimeMillis", "Random", "Thread", "Object", "float", "\\w+Exact", "->", "::",
        "while \\(true\\)", "for \\(;"};
    private static final int MOST_LINES = 60;
    /** What of the library the program uses (rule 4 leaves some more). */
    private static final Set<String> LIBRARY = Set.of("Arrays.fill", "Integer.bitCount", "Math.floorDiv", "Math.max", "Math.min",
            "System.arraycopy");
    private static final Set<Class<?>> STATIC_TYPES = Set.of(int.class, long.class, boolean.class, char.class, String.class,
            int[].class, long[].class, char[].class, byte[].class);

    private static final Checks CHECKS = new Checks("LanguageTest");

    public static void main(String[] args) throws IOException {
        String text = Files.readString(FILE);
        CHECKS.check(text.chars().allMatch(one -> one == '\n' || one >= 32 && one < 127), "a sign is not 32 to 126");
        String code = withoutComments(text);
        for (String word : WORDS) {
            Matcher matcher = Pattern.compile("(?<!\\w)" + word + "(?!\\w)").matcher(code);
            CHECKS.check(!matcher.find(), "the word " + word + " stands in it");
        }
        imports(code);
        library(code);
        staticFields();
        recursions(code);
        methodLengths(text.lines().toList());
        CHECKS.end();
    }

    private static String withoutComments(String text) {
        return text.replaceAll("(?s)/\\*.*?\\*/", " ").replaceAll("//[^\n]*", " ");
    }

    private static void imports(String code) {
        Matcher matcher = Pattern.compile("(?m)^import ([^;]*);").matcher(code);
        while (matcher.find()) {
            CHECKS.check(matcher.group(1).matches("java\\.util\\.(Arrays|ArrayList|List|Iterator)"),
                    "it imports " + matcher.group(1));
        }
    }

    /** Every name of a class is that of an own one, or stands before a function that rule 4 names. */
    private static void library(String code) {
        Set<String> own = Pattern.compile("class (\\w+)").matcher(code).results().map(one -> one.group(1)).collect(Collectors.toSet());
        String rest = code.replaceAll("(?m)^import .*$", "");
        Matcher matcher = Pattern.compile("(?<![\\w.])([A-Z]\\w*[a-z]\\w*)(\\.\\w+)?").matcher(rest);
        while (matcher.find()) {
            CHECKS.check(own.contains(matcher.group(1)) || LIBRARY.contains(matcher.group()), "it uses " + matcher.group());
        }
    }

    /** Rule 5. */
    private static void staticFields() {
        List<Class<?>> all = new ArrayList<>(List.of(LeaningLines.class.getDeclaredClasses()));
        all.add(LeaningLines.class);
        for (Class<?> one : all) {
            for (Field field : one.getDeclaredFields()) {
                CHECKS.check(!Modifier.isStatic(field.getModifiers())
                        || Modifier.isFinal(field.getModifiers()) && STATIC_TYPES.contains(field.getType()), field + " is static");
            }
        }
    }

    /** A method that names itself: the program has none, apart from copies of parts, which bear a name in each class. */
    private static void recursions(String code) {
        Matcher matcher = Pattern.compile("(?m)^( +)(?:[\\w\\[\\]]+ )+(\\w+)\\([^)]*\\) \\{\n(?s)(.*?)^\\1\\}").matcher(code);
        int many = 0;
        while (matcher.find()) {
            many++;
            CHECKS.check(!Pattern.compile("(?<![\\w.])" + matcher.group(2) + "\\(").matcher(matcher.group(3)).find(),
                    matcher.group(2) + " calls itself");
        }
        CHECKS.check(many > 60, "only " + many + " methods were found");
    }

    private static void methodLengths(List<String> lines) {
        int begin = -1;
        String end = "";
        for (int line = 0; line < lines.size(); line++) {
            String one = lines.get(line);
            CHECKS.check(one.length() <= 130, "line " + (line + 1) + " is long");
            if (begin < 0 && one.matches(" +\\w.*\\) \\{")) {
                begin = line;
                end = one.substring(0, one.length() - one.stripLeading().length()) + "}";
            } else if (begin >= 0 && one.equals(end)) {
                CHECKS.check(line - begin < MOST_LINES, "the method in line " + (begin + 1) + " is long");
                begin = -1;
            }
        }
    }
}
