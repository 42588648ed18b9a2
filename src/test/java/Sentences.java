import java.util.LinkedHashSet;
import java.util.Set;

/** Tests that stand under the sentence of the document that they hold the program to. */
public final class Sentences {
    public interface Body {
        void test();
    }

    private final Set<String> tested = new LinkedHashSet<>();
    private String section = "";

    /** The section of the document that the following sentences are of. */
    public void section(String name) {
        section = name;
    }

    public static String key(String section, String sentence) {
        return section + " | " + sentence.trim().replaceAll("\\s+", " ");
    }

    /** Runs the test of one sentence; a sentence has one test, and a test compares something. */
    public void says(String sentence, Body body) {
        String key = key(section, sentence);
        Check.head(key);
        if (!tested.add(key)) Check.fail("the sentence", "two tests", "one");
        int before = Check.made();
        try {
            body.test();
        } catch (RuntimeException e) {
            Check.fail("a call that is allowed", e.toString(), "no exception");
        }
        if (Check.made() == before) Check.fail("the sentence's test", "no comparison", "one at least");
        Check.head("");
    }

    public Set<String> tested() {
        return tested;
    }
}
