import java.util.ArrayList;
import java.util.List;
import java.util.Map;
import java.util.TreeMap;

/**
 * Tests that hold sentences of the document: each is named by its section and by the very words that it holds. In the
 * end the words are looked for in the document, and so are sentences without a test.
 */
final class Sentences {
    private static final Map<String, List<String>> HELD = new TreeMap<>();

    private Sentences() {
    }

    /** A test of its own for words of a section; aCase tells which of their boundary cases it is. */
    static void holds(String section, String words, String aCase, String script) {
        Script.run(titleOf(section, words, aCase), script);
    }

    /** The same, for two scripts that must lead to the same state. */
    static void holds(String section, String words, String aCase, String script, String other) {
        Script.runBoth(titleOf(section, words, aCase), script, other);
    }

    private static String titleOf(String section, String words, String aCase) {
        HELD.computeIfAbsent(section, s -> new ArrayList<>()).add(words);
        return section + ": \"" + words + "\" - " + aCase;
    }

    /** Ends the tests of the sections whose headings begin so. */
    static void end(String heading) {
        if (!Pages.DOCUMENT.isEmpty()) {
            Map<String, String> sections = sections();
            for (String section : sections.keySet()) {
                if (section.startsWith(heading)) {
                    HELD.computeIfAbsent(section, s -> new ArrayList<>());
                }
            }
            HELD.forEach((section, held) -> compare(section, held, sentencesOf(sections.getOrDefault(section, ""))));
        }
        Script.end();
    }

    private static void compare(String section, List<String> held, List<String> sentences) {
        for (String words : held) {
            if (sentences.stream().noneMatch(sentence -> sentence.contains(words))) {
                Script.tellWrong(section, "the document does not say: " + words);
            }
        }
        for (String sentence : sentences) {
            if (held.stream().noneMatch(sentence::contains)) {
                Script.tellWrong(section, "no test holds: " + sentence);
            }
        }
    }

    /** The sentences of a section; a line that tells an argument counts as one if it names a number. */
    private static List<String> sentencesOf(String section) {
        List<String> sentences = new ArrayList<>();
        for (String paragraph : section.split("\n\n+|\n(?=- )")) {
            String told = paragraph.strip().replaceFirst("^`[^`]*\\)[^`]*`: ", "").replaceAll("\\s+", " ");
            if (told.startsWith("- ")) {
                if (told.matches(".*\\d.*")) {
                    sentences.add(told);
                }
                continue;
            }
            for (String sentence : told.split("(?<=\\.) (?=[A-Z])")) {
                // The words at the head of a paragraph, as "Map.", are no sentence.
                if (sentence.indexOf(' ') > 0 && !sentence.equals("In doubt, too.")) {
                    sentences.add(sentence);
                }
            }
        }
        return sentences;
    }

    /** By its heading, what stands behind it and ahead of the next one; DocumentTest holds what comes from the examples on. */
    static Map<String, String> sections() {
        Map<String, String> sections = new TreeMap<>();
        for (String part : Pages.DOCUMENT.split("\n## ")) {
            String heading = part.lines().findFirst().orElse("");
            sections.put(heading, part.substring(heading.length()).split("\nExamples\\. ")[0].strip());
        }
        return sections;
    }
}
