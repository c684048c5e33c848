import java.io.IOException;
import java.nio.file.Files;
import java.nio.file.Path;
import java.util.ArrayList;
import java.util.List;

/** Tests that each name a sentence of the document, and whether they leave one out. */
final class Sentences {
    private static final Path DOCUMENT = Path.of("../shared/DOC.md");
    private static final List<String> NAMED = new ArrayList<>();
    private static int tests;

    private Sentences() {
    }

    /** A test of its own for what the sentence says; the sentence stands there word by word. */
    static void test(String sentence, Runnable test) {
        NAMED.add(sentence);
        tests++;
        int asked = Bench.asked();
        int wrong = Bench.wrong();
        try {
            test.run();
        } catch (RuntimeException thrown) {
            Bench.due(thrown + " was thrown: " + sentence, 1, 0);
        }
        Bench.due("no answer was asked: " + sentence, Bench.asked() == asked ? 1 : 0, 0);
        if (Bench.wrong() > wrong) {
            System.out.println("NOT HELD: " + sentence);
        }
    }

    /** What names no case that a call could answer. */
    static void withoutTest(String text) {
        NAMED.add(text);
    }

    static int tests() {
        return tests;
    }

    /** Every word of the document stands in a sentence that was named. */
    static void coverDocument() throws IOException {
        if (!Files.exists(DOCUMENT)) {
            System.out.println("there is no " + DOCUMENT + " to compare the sentences with");
            return;
        }
        String document = inOneLine(Files.readString(DOCUMENT));
        String rest = document;
        for (String sentence : NAMED) {
            Bench.due("the document has no: " + sentence, document.contains(sentence) ? 1 : 0, 1);
            rest = rest.replace(sentence, "|");
        }
        String left = rest.replaceAll("[| ]+", " ").strip();
        Bench.due("no test names: " + left, left.length(), 0);
    }

    private static String inOneLine(String text) {
        return text.replace("```text", " ").replace("```java", " ").replace("```", " ").replaceAll("\\s+", " ");
    }
}
