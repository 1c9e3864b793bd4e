import java.io.IOException;
import java.nio.file.Files;
import java.nio.file.Path;
import java.util.LinkedHashMap;
import java.util.Map;
import java.util.function.Consumer;

/**
 * Runs one test for each sentence, or part of one, of the document. A sentence that no longer stands in its section is
 * told, and so is every word of a section that no test has named.
 */
final class Sentences {
    private static final Path DOCUMENT = Path.of("../shared/DOC.md");

    private static final class Section {
        final StringBuilder text = new StringBuilder();
        boolean[] named = new boolean[0];

        int find(String sentence) {
            return text.indexOf(sentence);
        }
    }

    private final Map<String, Section> sections = new LinkedHashMap<>();
    private final Check check = new Check();
    private Section section = new Section();
    private String title = "";
    private int tests;

    Sentences() throws IOException {
        for (String line : Files.readAllLines(DOCUMENT)) {
            if (line.startsWith("#")) {
                section = new Section();
                sections.put(line.replaceFirst("#+ ", ""), section);
            } else if (!line.isEmpty()) {
                section.text.append(line.replaceFirst("^- ", "").replace("`", "")).append(' ');
            }
        }
        for (Section one : sections.values()) {
            one.named = new boolean[one.text.length()];
        }
    }

    /** The sentences that follow stand in this section. */
    void section(String name) {
        title = name;
        section = sections.getOrDefault(name, new Section());
    }

    void holds(String sentence, Consumer<Check> test) {
        tests++;
        check.begin(title + ", \"" + sentence + "\"");
        int start = section.find(sentence);
        check.due("its place in the document, if it has none", start < 0 ? -1 : 0, 0);
        for (int i = Math.max(0, start); start >= 0 && i < start + sentence.length(); i++) {
            section.named[i] = true;
        }
        int before = check.answers();
        test.accept(check);
        check.due("a test that looks at nothing", check.answers() == before ? 1 : 0, 0);
    }

    /** Tells each word of these sections that no test has named. */
    void areAllNamed(String first, String last) {
        boolean isWithin = false;
        for (Map.Entry<String, Section> entry : sections.entrySet()) {
            isWithin |= entry.getKey().equals(first);
            if (isWithin) {
                check.begin(entry.getKey());
                check.dueText("what no test has named", unnamed(entry.getValue()), "");
            }
            isWithin &= !entry.getKey().equals(last);
        }
    }

    void end() {
        System.out.println(tests + " sentences have a test of their own");
        check.end();
    }

    private static String unnamed(Section one) {
        StringBuilder left = new StringBuilder();
        for (int i = 0; i < one.named.length; i++) {
            left.append(one.named[i] ? ' ' : one.text.charAt(i));
        }
        return left.toString().replaceAll("[^A-Za-z0-9]+", " ").trim();
    }
}
