import java.io.IOException;
import java.io.UncheckedIOException;
import java.nio.file.Files;
import java.nio.file.Path;
import java.util.Map;
import java.util.TreeMap;

/** The sentences of the document: each test of an edge names its promise and its sentence, and none is left unnamed. */
final class Sentence {
    private static final Path DOCUMENT = Path.of("../shared/DOC.md");
    private static final int PROMISES = 31, TERMS = 0;
    private static final Map<Integer, String> SECTIONS = sections();
    private static final Map<Integer, boolean[]> NAMED = new TreeMap<>();
    private static final int[] TESTS_OF = new int[PROMISES + 1];

    private Sentence() {
    }

    /** What is asked from here on is asked for this promise and this sentence, as the document has it. */
    static void of(int promise, String sentence) {
        Check.at("promise " + promise + ", \"" + sentence + "\": ");
        TESTS_OF[promise]++;
        boolean found = name(promise, sentence) || name(TERMS, sentence);
        Check.holds("the document has this sentence", found);
    }

    private static boolean name(int section, String sentence) {
        String text = SECTIONS.get(section);
        int start = text.indexOf(sentence);
        if (start < 0) {
            return false;
        }
        boolean[] named = NAMED.computeIfAbsent(section, key -> new boolean[text.length()]);
        for (int place = start; place < start + sentence.length(); place++) {
            named[place] = true;
        }
        return true;
    }

    static void noneIsLeft() {
        Check.at("");
        for (int promise = 1; promise <= PROMISES; promise++) {
            Check.holds("promise " + promise + " has a test of an edge", TESTS_OF[promise] > 0);
        }
        for (int section : SECTIONS.keySet()) {
            String left = unnamed(section);
            Check.holds("every sentence of section " + section + " is named by a test; left: " + left,
                left.replaceAll("[^A-Za-z0-9]", "").isEmpty());
        }
    }

    private static String unnamed(int section) {
        String text = SECTIONS.get(section);
        boolean[] named = NAMED.getOrDefault(section, new boolean[text.length()]);
        StringBuilder left = new StringBuilder();
        for (int place = 0; place < text.length(); place++) {
            left.append(named[place] ? ' ' : text.charAt(place));
        }
        return left.toString().trim();
    }

    private static Map<Integer, String> sections() {
        String document;
        try {
            document = Files.readString(DOCUMENT);
        } catch (IOException e) {
            throw new UncheckedIOException(e);
        }
        Map<Integer, String> sections = new TreeMap<>();
        String terms = between(document, "## Terms", "## Promise 1:");
        sections.put(TERMS, plain(terms.replaceAll("(?m)^Ahead of the calls.*$", "").replaceAll("={8} \\d", "")));
        for (int promise = 1; promise <= PROMISES; promise++) {
            String next = promise < PROMISES ? "## Promise " + (promise + 1) + ":" : "## Not promised";
            String section = between(document, "## Promise " + promise + ":", next);
            sections.put(promise, plain(section.substring(section.indexOf("`:") + 2)));
        }
        return sections;
    }

    private static String between(String text, String start, String end) {
        int from = text.indexOf(start) + start.length();
        return text.substring(from, text.indexOf(end, from));
    }

    private static String plain(String text) {
        return text.replaceAll("```(text)?", " ").replaceAll("\\s+", " ").trim();
    }
}
