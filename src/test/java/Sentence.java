import java.io.IOException;
import java.nio.file.Files;
import java.nio.file.Path;
import java.util.LinkedHashSet;
import java.util.Set;

/**
 * The sentences of the document, each told by its place and its words: a test says which sentence it tests, and in
 * the end the document itself is read, so that no sentence is left out and none is quoted wrongly.
 *
 * The place is the label of a paragraph under "Description" ("The wheel"), "Promise 7" under the heading of a promise,
 * and otherwise the heading. The words are those of the document without the signs that mark a list or a code.
 */
final class Sentence {
    private static final Path DOCUMENT = Path.of("../shared/DOC.md");
    private static final Set<String> QUOTED = new LinkedHashSet<>();

    private Sentence() {
    }

    static void test(String place, String words, Runnable test) {
        QUOTED.add(place + ": " + words);
        Check.about(place + ", \"" + words + "\"", test);
    }

    /** For a sentence that no answer could break. */
    static void leavesFree(String place, String words) {
        QUOTED.add(place + ": " + words);
    }

    static void dueAllOfTheDocument() throws IOException {
        Set<String> written = sentencesOf(Files.readString(DOCUMENT));
        for (String sentence : written) {
            Check.dueThat("no test quotes the document's \"" + sentence + "\"", QUOTED.contains(sentence));
        }
        for (String sentence : QUOTED) {
            Check.dueThat("the document does not say \"" + sentence + "\"", written.contains(sentence));
        }
    }

    private static Set<String> sentencesOf(String document) {
        Set<String> sentences = new LinkedHashSet<>();
        for (String section : document.split("(?m)^## ")) {
            String heading = section.lines().findFirst().orElse("");
            String text = section.substring(heading.length());
            if (heading.equals("Description")) {
                addDescription(sentences, text);
            } else if (heading.startsWith("Promise ")) {
                add(sentences, heading.substring(0, heading.indexOf(':')), text);
            } else if (heading.equals("What it is") || heading.equals("Not promised")) {
                add(sentences, heading, text);
            }
        }
        return sentences;
    }

    /** A paragraph may begin with its label, of a word or a few, and a full stop. */
    private static void addDescription(Set<String> sentences, String text) {
        String label = "Description";
        for (String line : text.split("\n")) {
            if (line.matches("[A-Z][a-z ]{1,30}\\. .*")) {
                label = line.substring(0, line.indexOf('.'));
                add(sentences, label, line.substring(label.length() + 2));
            } else if (line.startsWith("- ")) {
                add(sentences, "The constants", line);
            } else if (!line.startsWith("The constants:") && !line.startsWith("The constructor and the methods follow")) {
                add(sentences, label, line);
            }
        }
    }

    private static void add(Set<String> sentences, String place, String text) {
        for (String line : text.split("\n")) {
            if (line.isBlank() || line.startsWith("`") || line.startsWith("----")) {
                continue;
            }
            String plain = line.replace("`", "").replaceFirst("^- ", "");
            for (String sentence : plain.split("(?<=[.]|[.]\\)) (?=[A-Z(])")) {
                sentences.add(place + ": " + sentence);
            }
        }
    }
}
