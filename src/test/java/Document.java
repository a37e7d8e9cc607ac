import java.io.IOException;
import java.nio.file.Files;
import java.nio.file.Path;
import java.util.ArrayList;
import java.util.LinkedHashMap;
import java.util.LinkedHashSet;
import java.util.List;
import java.util.Map;
import java.util.Set;

/**
 * The sentences of the document. A test of a bound names the sentence that it stands for, or a part of it;
 * what is named has to stand in the document, and in the end each sentence has to be named.
 */
final class Document {
    private static final Path PATH = Path.of("../shared/DOC.md");
    private static final Map<String, List<String>> SENTENCES = new LinkedHashMap<>();
    private static final Set<String> NAMED = new LinkedHashSet<>();
    private static String section = "";
    private static String latest = "";
    private static int checkedBefore = 0;

    private Document() {
    }

    /** The tests that come next are of this section: its heading, without what is behind a colon. */
    static void section(String heading) {
        endTest();
        section = heading;
        if (!sentences().containsKey(heading)) {
            Check.tell("the document has no section " + heading);
        }
    }

    /** A test begins that stands for this sentence of the section. */
    static void sentence(String words) {
        endTest();
        name(words);
        latest = section + ", \"" + words + "\"";
        Check.about(latest + ": ");
        checkedBefore = Check.checked();
    }

    /** Sentences of a section that name no bound. */
    static void noBound(String heading, String... all) {
        section(heading);
        for (String words : all) {
            name(words);
        }
    }

    /** A section that names no bound at all, or is tested elsewhere. */
    static void noBounds(String heading) {
        noBound(heading, "");
    }

    private static void endTest() {
        if (!latest.isEmpty() && Check.checked() == checkedBefore) {
            Check.tell("nothing is checked");
        }
        latest = "";
        Check.about("");
    }

    private static void name(String words) {
        boolean isThere = false;
        for (String sentence : sentences().getOrDefault(section, List.of())) {
            if (sentence.contains(words)) {
                NAMED.add(section + ": " + sentence);
                isThere = true;
            }
        }
        if (!isThere) {
            Check.tell(section + " does not say: " + words);
        }
    }

    static void allAreNamed() {
        endTest();
        int count = 0;
        for (Map.Entry<String, List<String>> one : sentences().entrySet()) {
            for (String sentence : one.getValue()) {
                count++;
                Check.due("named: " + one.getKey() + ": " + sentence, 1,
                    NAMED.contains(one.getKey() + ": " + sentence) ? 1 : 0);
            }
        }
        Check.due("there are sentences", 1, count > 0 ? 1 : 0);
    }

    private static Map<String, List<String>> sentences() {
        if (SENTENCES.isEmpty()) {
            try {
                read(Files.readAllLines(PATH));
            } catch (IOException fault) {
                Check.tell("the document cannot be read: " + fault);
                SENTENCES.put("", new ArrayList<>());
            }
        }
        return SENTENCES;
    }

    private static void read(List<String> lines) {
        String heading = "";
        StringBuilder paragraph = new StringBuilder();
        boolean isCode = false;
        for (String line : lines) {
            boolean isFence = line.startsWith("```");
            boolean isHeading = line.startsWith("#") && !isCode;
            if (isCode || isFence || isHeading || line.isBlank() || line.startsWith("- ")) {
                split(heading, paragraph.toString());
                paragraph.setLength(0);
            }
            if (isHeading) {
                heading = line.replaceFirst("^#+ ", "").replaceFirst("^(Promise \\d+):.*", "$1");
                SENTENCES.putIfAbsent(heading, new ArrayList<>());
            } else if (isFence) {
                isCode = !isCode;
            } else {
                paragraph.append(line.strip()).append(' ');
            }
        }
        split(heading, paragraph.toString());
    }

    /** A sentence ends at a full stop or a semicolon that does not stand between brackets. */
    private static void split(String heading, String paragraph) {
        StringBuilder sentence = new StringBuilder();
        int depth = 0;
        for (int at = 0; at < paragraph.length(); at++) {
            char sign = paragraph.charAt(at);
            sentence.append(sign);
            depth += sign == '(' ? 1 : sign == ')' ? -1 : 0;
            boolean ends = (sign == '.' || sign == ';') && depth == 0 && paragraph.charAt(at + 1) == ' ';
            if (ends || at == paragraph.length() - 1) {
                if (!sentence.toString().isBlank()) {
                    SENTENCES.computeIfAbsent(heading, none -> new ArrayList<>()).add(sentence.toString().strip());
                }
                sentence.setLength(0);
            }
        }
    }
}
