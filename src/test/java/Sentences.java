import java.io.IOException;
import java.nio.file.Files;
import java.nio.file.Path;
import java.util.LinkedHashMap;
import java.util.Map;
import java.util.function.Consumer;
import java.util.regex.Matcher;
import java.util.regex.Pattern;

/**
 * The sentences of the document that have tests. A test quotes its sentence; a quote that does not stand in the document
 * is a fault, and so is a word of the document that no test quotes.
 */
final class Sentences {
    private static final Path DOCUMENT = Path.of("../shared/DOC.md");
    private static final Pattern SECTION = Pattern.compile("(?ms)^## ([^\\n]*)\\n(.*?)(?=^## |\\z)");
    /** Headings, fences, the forms of the methods, and who stands under which heading of the interface. */
    private static final Pattern NO_SENTENCE = Pattern.compile("### \\w+|```(?:text)?|CONVENTIONS\\.|^ ?`[^`]*`:"
            + "|Ahead of the calls (?:`\\w+`,? )+the interface says:(?: ---- (?:changes|what there is|texts|undo, saving)\\.)?");

    private static final class Section {
        final String text;
        final boolean[] quoted;

        Section(String text) {
            this.text = text.replaceAll("\\s+", " ");
            this.quoted = new boolean[this.text.length()];
        }

        void quote(int begin, int end) {
            for (int at = begin; at < end; at++) {
                quoted[at] = true;
            }
        }
    }

    private final Checks checks;
    private final Map<String, Section> sections = new LinkedHashMap<>();
    private String title = "";

    Sentences(Checks checks) throws IOException {
        this.checks = checks;
        Matcher matcher = SECTION.matcher(Files.readString(DOCUMENT));
        while (matcher.find()) {
            Section section = new Section(matcher.group(2));
            sections.put(matcher.group(1), section);
            Matcher none = NO_SENTENCE.matcher(section.text);
            while (none.find()) {
                section.quote(none.start(), none.end());
            }
        }
    }

    /** The tests from now on quote this section. */
    void section(String itsTitle) {
        checks.check(sections.containsKey(itsTitle), "the document has no section " + itsTitle);
        title = itsTitle;
    }

    void test(String sentence, Consumer<Run> test) {
        String about = title + ", \"" + sentence + "\": ";
        quote(sentence, about);
        int before = checks.made();
        try {
            test.accept(new Run(checks, about));
        } catch (RuntimeException thrown) {
            checks.check(false, about + "threw " + thrown);
        }
        checks.check(checks.made() > before, about + "nothing was checked");
    }

    private void quote(String sentence, String about) {
        Section section = sections.get(title);
        int begin = section == null ? -1 : section.text.indexOf(sentence);
        checks.check(begin >= 0, about + "the document does not say that there");
        if (begin >= 0) {
            checks.check(section.text.indexOf(sentence, begin + 1) < 0, about + "the document says that twice there");
            section.quote(begin, begin + sentence.length());
        }
    }

    /** Each word of the document must be quoted, but for the face (it has a test of its own), and what is not promised. */
    void allAreQuoted() {
        for (Map.Entry<String, Section> one : sections.entrySet()) {
            if (!one.getKey().equals("The public face") && !one.getKey().equals("Not promised")) {
                String rest = notQuoted(one.getValue());
                checks.check(rest.isEmpty(), one.getKey() + ": no test quotes \"" + rest + "\"");
            }
        }
    }

    private static String notQuoted(Section section) {
        StringBuilder rest = new StringBuilder();
        for (int at = 0; at < section.quoted.length; at++) {
            rest.append(section.quoted[at] ? ' ' : section.text.charAt(at));
        }
        return rest.toString().replaceAll("\\s+", " ").strip();
    }
}
