import java.io.IOException;
import java.nio.file.Files;
import java.nio.file.Path;
import java.util.LinkedHashSet;
import java.util.Set;
import java.util.regex.Matcher;
import java.util.regex.Pattern;

/**
 * Runs the tests that stand under sentences of the document, and compares their headings with the document: a
 * sentence without a test, or a test without its sentence, is a fault.
 */
public final class SentencesTest {
    private static final Path DOCUMENT = Path.of("../shared/DOC.md");
    private static final Pattern PROMISE = Pattern.compile("## (Promise \\d+):.*");
    private static final Pattern TERM = Pattern.compile("[A-Z ]+");
    private static final String SIGNATURE = "^`[^`]*\\)[^`]*`: ";
    private static final String END_OF_SENTENCE = "(?<=\\.|\\.\\))\\s+(?=[A-Z(])";

    /** Sentences that only introduce others, or say shortly what another sentence of their promise says whole. */
    private static final String[] WITHOUT_BOUNDARY = {
        "What it is | An analyser of packet drops in a queue: .*",
        "THE QUEUE | Let a packet of size s arrive\\.",
        "THE QUEUE | Otherwise the (policy decides|scheduler chooses):",
        "CAUSES | Consider a packet that is dropped in the replay with all flows\\.",
        "TEXTS | A command is a word, followed by numbers:",
        "EXCEPTIONS | Ahead of the calls .*",
        "Promise \\d+ | - `packet`: its number",
        "Promise 2 | Records a packet\\.",
        "Promise 4 | Returns the number\\.",
        "Promise 5 | Returns (a property of a packet|the property)\\.",
        "Promise \\d+ | Sets the [a-z ]+\\.",
        "Promise 16 | Tells what became of a packet in the latest replay\\.",
        "Promise 17 | - `tick`: the tick",
        "Promise 20 | Returns (the measure of a replay|v\\(flows\\))\\.",
        "Promise 21 | Returns (the measure of a replay with a victim flow|v\\(flows\\), counting .*)\\.",
        "Promise 22 | Returns the contribution( of a flow to a set of flows)?\\.",
        "Promise 2[3-6] | Returns (that part|the blame of a flow|the index of a flow|the interaction of two flows)\\.",
        "Promise 27 | Returns the flow\\.",
        "Promise 28 | Returns the sum\\.",
        "Promise 29 | Returns the smallest cause for a packet\\.",
        "Promise 35 | Returns the fault of the text\\.",
        "Promise 38 | (Computes a|Returns the) checksum\\."};

    private static Set<String> sentences(String document) {
        Set<String> sentences = new LinkedHashSet<>();
        String section = "";
        for (String raw : document.split("\n")) {
            String line = raw.trim();
            Matcher promise = PROMISE.matcher(line);
            if (promise.matches()) {
                section = promise.group(1);
            } else if (line.startsWith("## ")) {
                section = line.substring(3);
            } else if (TERM.matcher(line).matches()) {
                section = line;
            } else if (!line.isEmpty() && !line.startsWith("```") && !line.startsWith("# ") && isPromised(section)) {
                String text = section.startsWith("Promise") ? line.replaceFirst(SIGNATURE, "") : line;
                for (String s : text.split(END_OF_SENTENCE)) sentences.add(Sentences.key(section, s));
            }
        }
        return sentences;
    }

    private static boolean isPromised(String section) {
        return !section.equals("The public face") && !section.equals("Not promised");
    }

    private static boolean hasBoundary(String sentence) {
        for (String pattern : WITHOUT_BOUNDARY) {
            if (sentence.matches(pattern.replace(" | ", " \\| "))) return false;
        }
        return true;
    }

    private static void compareWithDocument(Set<String> tested) throws IOException {
        if (!Files.exists(DOCUMENT)) {
            System.out.println("there is no " + DOCUMENT + ": the sentences are not compared with it");
            return;
        }
        Set<String> said = sentences(Files.readString(DOCUMENT));
        for (String sentence : said) {
            if (hasBoundary(sentence) && !tested.contains(sentence)) Check.fail(sentence, "no test", "a test of its own");
        }
        for (String sentence : tested) {
            if (!said.contains(sentence)) Check.fail(sentence, "a test", "a sentence of the document");
        }
    }

    public static void main(String[] args) throws IOException {
        Sentences doc = new Sentences();
        FaceSentences.test(doc);
        QueueSentences.test(doc);
        BlameSentences.test(doc);
        TextSentences.test(doc);
        ExceptionSentences.test(doc);
        compareWithDocument(doc.tested());
        Check.end();
    }
}
