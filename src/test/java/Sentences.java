import java.io.IOException;
import java.nio.file.Files;
import java.nio.file.Path;
import java.util.Arrays;
import java.util.HashMap;
import java.util.LinkedHashMap;
import java.util.Map;

/**
 * Tests of the document's sentences. A test says where its sentence stands and what its words are: the document must
 * have these words there, and at the end no sentence of the terms and the promises may be left without a test.
 */
final class Sentences {
    private static final Path DOCUMENT = Path.of("../shared/DOC.md");

    private final String name;
    private final Due due;
    private final Map<String, String> sections;
    /** Which letters of a section stand in the words of some test. */
    private final Map<String, boolean[]> tested = new HashMap<>();
    private String section = "";
    private int tests = 0;
    private int broken = 0;

    Sentences(String name, Due due) throws IOException {
        this.name = name;
        this.due = due;
        sections = readSections(Files.readString(DOCUMENT));
        for (String title : sections.keySet()) {
            tested.put(title, new boolean[sections.get(title).length()]);
        }
    }

    /** The tests that follow are of sentences of this section. */
    void in(String title) {
        section = title;
        due.at(title);
        due.is("the document has this section", sections.containsKey(title), true);
    }

    void test(String sentence, Runnable body) {
        tests++;
        due.at(section + ", \"" + sentence + "\"");
        int wrongBefore = due.wrong();
        quote(onOneLine(sentence));
        try {
            body.run();
        } catch (RuntimeException thrown) {
            due.is("threw " + thrown, true, false);
        }
        if (due.wrong() > wrongBefore) {
            broken++;
        }
    }

    void end() {
        for (String title : sections.keySet()) {
            if (title.equals("Terms") || title.startsWith("Promise ")) {
                due.at(title);
                lookForUntested(title);
            }
        }
        System.out.println(name + ": " + tests + " sentences, " + broken + " broken");
        due.end();
    }

    private void quote(String sentence) {
        String text = sections.getOrDefault(section, "");
        int at = text.indexOf(sentence);
        due.is("the document has these words there", at >= 0, true);
        if (at >= 0) {
            Arrays.fill(tested.get(section), at, at + sentence.length(), true);
        }
    }

    private void lookForUntested(String title) {
        int at = 0;
        for (String sentence : sections.get(title).split("(?<=[.;:]) ")) {
            boolean isTested = false;
            for (int i = at; i < at + sentence.length(); i++) {
                isTested |= tested.get(title)[i];
            }
            boolean isSignature = sentence.startsWith("`");
            due.is("a test of \"" + sentence + "\"", isTested || isSignature, true);
            at += sentence.length() + 1;
        }
    }

    private static Map<String, String> readSections(String document) {
        Map<String, String> found = new LinkedHashMap<>();
        for (String part : document.split("\n## ")) {
            int end = part.indexOf('\n');
            if (end >= 0) {
                found.put(part.substring(0, end).trim(), onOneLine(part.substring(end)));
            }
        }
        return found;
    }

    /** Ranges are drawn together: the points of "0 .. 5" end no sentence. */
    private static String onOneLine(String text) {
        return text.trim().replaceAll("\\s+", " ").replace(" .. ", "..");
    }
}
