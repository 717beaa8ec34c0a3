import java.io.IOException;
import java.lang.reflect.Method;
import java.nio.file.Files;
import java.nio.file.Path;
import java.util.HashMap;
import java.util.Map;

/**
 * The words beside the tests are the document's own, and none of its words in Terms and in the promises is without a
 * test. What stands between `..` is the face, which FaceTest looks at.
 */
public final class SentencesTest {
    private static final Class<?>[] TESTS = {
        TermsTest.class, BuildingTest.class, FindingTest.class, ReadingTest.class};
    /** Words that only say what the next ones are about. */
    private static final String[] WITHOUT_A_TEST = {"THE ORDER of PATHS from a to b:"};

    public static void main(String[] args) throws IOException {
        Map<String, StringBuilder> left = sections(Files.readString(Path.of("../shared/DOC.md")));
        Map<String, String> whole = new HashMap<>();
        left.forEach((heading, text) -> whole.put(heading, text.toString()));
        for (Class<?> tests : TESTS) {
            for (Method test : Check.sentenceTests(tests)) {
                Sentence sentence = test.getAnnotation(Sentence.class);
                String text = whole.getOrDefault(sentence.from(), "");
                Check.due("the words of " + test.getName() + ", 1 if the document's",
                    text.contains(sentence.words()) ? 1 : 0, 1);
                strike(left.get(sentence.from()), text, sentence.words());
            }
        }
        for (String words : WITHOUT_A_TEST) {
            strike(left.get("Terms"), whole.get("Terms"), words);
        }
        noneIsLeft("Terms", left);
        for (int promise = 1; promise <= 17; promise++) {
            noneIsLeft("Promise " + promise, left);
        }
        Check.end();
    }

    /** What stands under each heading, which counts up to its colon. */
    private static Map<String, StringBuilder> sections(String document) {
        Map<String, StringBuilder> found = new HashMap<>();
        for (String section : document.split("\n## ")) {
            int end = section.indexOf('\n');
            String heading = (end < 0 ? section : section.substring(0, end)).split(":")[0].strip();
            String text = end < 0 ? "" : section.substring(end).replaceAll("`[^`]*`", "").replaceAll("\\s+", " ");
            found.put(heading, new StringBuilder(text));
        }
        return found;
    }

    private static void strike(StringBuilder left, String text, String words) {
        int at = text == null ? -1 : text.indexOf(words);
        if (at >= 0) {
            left.replace(at, at + words.length(), " ".repeat(words.length()));
        }
    }

    private static void noneIsLeft(String heading, Map<String, StringBuilder> left) {
        StringBuilder text = left.getOrDefault(heading, new StringBuilder("no such heading"));
        String words = text.toString().replaceAll("[^A-Za-z0-9]+", " ").strip();
        Check.due("words of " + heading + " without a test (" + words + "), 1 if some", words.isEmpty() ? 0 : 1, 0);
    }
}
