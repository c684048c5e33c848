import java.io.IOException;

/** Every sentence of the document, each with a test of its own. */
final class SentencesTest {
    public static void main(String[] args) throws IOException {
        FaceSentences.all();
        MemorySentences.all();
        StepSentences.all();
        OperandSentences.all();
        OpcodeSentences.all();
        BitSentences.all();
        FlowSentences.all();
        StringSentences.all();
        withoutTests();
        Sentences.coverDocument();
        System.out.println("SentencesTest: " + Sentences.tests() + " sentences, each with a test of its own");
        Bench.finish("SentencesTest");
    }

    /** Headings, the face, which LanguageTest compares, and what the document leaves open. */
    private static void withoutTests() {
        Sentences.withoutTest("# LongModeCore ## What it is");
        Sentences.withoutTest("## The public face public final class LongModeCore { public static final int NONE = -1; "
                + "public LongModeCore(); public boolean store(int place, int first, int second); public long stored(int place); "
                + "public boolean set(int register, int high, int low); public long get(int register); "
                + "public void level(boolean user); public int step(); public int run(int n); "
                + "public long look(int high, int low, int how); }");
        Sentences.withoutTest("## Terms");
        Sentences.withoutTest("The constants:");
        String[] promises = {"1: A new object", "2: store", "3: stored", "4: set", "5: get", "6: level", "7: step", "8: run", "9: look"};
        for (String promise : promises) {
            Sentences.withoutTest("## Promise " + promise + " ");
        }
        Sentences.withoutTest("## Not promised How the state is held inside the object is free, as are the speed of each call, the "
                + "text of toString and the behaviour of equals and hashCode. Use of one object from several threads at once is not "
                + "promised to be safe. Nothing is promised beyond the answers and state changes described above, and nothing about "
                + "an object after its 512th call.");
    }
}
