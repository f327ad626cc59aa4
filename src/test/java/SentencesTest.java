import java.io.IOException;
import java.lang.reflect.Method;
import java.nio.file.Files;
import java.nio.file.Path;
import java.util.ArrayList;
import java.util.LinkedHashMap;
import java.util.List;
import java.util.Map;

/**
 * What the tests say that they hold stands in the document, and each sentence of its terms and promises is held by a
 * test. Run at the project's root.
 */
public final class SentencesTest {
    private static final Path DOCUMENT = Path.of("../shared/DOC.md");
    private static final Class<?>[] TESTS = {BoundaryTermsTest.class, BoundaryMergingTest.class,
        BoundaryOwnersChangesRoundsTest.class, BoundaryCommentsApprovalsTest.class, BoundaryLandingTest.class,
        BoundaryTextsTest.class, BoundaryAskedTest.class};
    private static final int PROMISES = 31;

    private final Map<String, String> sections = new LinkedHashMap<>();

    private SentencesTest() throws IOException {
        String heading = "";
        for (String line : Files.readAllLines(DOCUMENT)) {
            if (line.startsWith("## ")) {
                heading = line.substring(3).replaceAll(":.*", "");
            } else {
                sections.merge(heading, line, (before, next) -> before + "\n" + next);
            }
        }
    }

    public static void main(String[] args) throws IOException {
        SentencesTest test = new SentencesTest();
        test.checkThatAllStandInTheDocument();
        test.checkThatTheTermsAreHeld();
        test.checkThatThePromisesAreHeld();
        Check.end("SentencesTest");
    }

    private static String plain(String text) {
        return text.replace("`", "").replaceAll("\\s+", " ").trim();
    }

    private static List<Method> tests() {
        List<Method> tests = new ArrayList<>();
        for (Class<?> holder : TESTS) {
            tests.addAll(Sentences.testsOf(holder));
        }
        return tests;
    }

    private void checkThatAllStandInTheDocument() {
        for (Method test : tests()) {
            Holds held = test.getAnnotation(Holds.class);
            Check.due(test.getName() + " says what stands in the document at " + held.at(), true,
                () -> plain(sections.getOrDefault(held.at(), "")).contains(plain(held.sentence())));
        }
    }

    private static boolean isHeld(String at, String sentence) {
        for (Method test : tests()) {
            Holds held = test.getAnnotation(Holds.class);
            String quoted = plain(held.sentence());
            if (held.at().equals(at) && (quoted.contains(sentence) || sentence.contains(quoted))) {
                return true;
            }
        }
        return false;
    }

    /** The sentences of the terms, and the parts of those that have several; a word alone is the name of a paragraph. */
    private void checkThatTheTermsAreHeld() {
        String terms = plain(sections.getOrDefault("Terms", ""));
        int start = terms.indexOf("Texts. A line has");
        int end = terms.indexOf("Ahead of the calls");
        Check.due("the terms are found", true, () -> start >= 0 && end > start);
        if (start < 0 || end < start) {
            return;
        }
        for (String sentence : terms.substring(start, end).split("(?<=[.;])\\s+")) {
            if (sentence.contains(" ")) {
                Check.due("a test holds: " + sentence, true, () -> isHeld("Terms", sentence));
            }
        }
    }

    /** What each promise does, what it returns, and what it throws. */
    private void checkThatThePromisesAreHeld() {
        for (int number = 1; number <= PROMISES; number++) {
            String at = "Promise " + number;
            String promise = sections.getOrDefault(at, "");
            Check.due(at + " is found", true, () -> !promise.isEmpty());
            for (String paragraph : promise.split("\n\\s*\n")) {
                // What a promise does stands behind the head of its call.
                String sentence = plain(paragraph.trim().replaceAll("^`[^`]*`: ", ""));
                if (!sentence.isEmpty() && !sentence.startsWith("- ")) {
                    Check.due(at + ", a test holds: " + sentence, true, () -> isHeld(at, sentence));
                }
            }
            Check.due(at + ", a test holds one of its sentences", true, () -> isHeld(at, plain(promise)));
        }
    }
}
