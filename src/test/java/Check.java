import java.util.ArrayList;
import java.util.List;

/** What the tests of the project share: telling an INN as one text, and counting the answers that are not as due. */
final class Check {
    /** Words of DOC.md, and the heading there under which they stand. */
    record Sentence(String heading, String words) {
    }

    private static final int MOST_TOLD = 100;
    private final String test;
    private final List<Sentence> sentences = new ArrayList<>();
    private String under = "";
    private int passedAhead = 0;
    private int passed = 0;
    private int failed = 0;

    Check(String test) {
        this.test = test;
    }

    /** The checks from here on are for these words, so that a fault tells which sentence is broken. */
    void sentence(String heading, String words) {
        endSentence();
        sentences.add(new Sentence(heading, words));
        under = heading + ", \"" + words + "\": ";
    }

    private void endSentence() {
        boolean isTested = under.isEmpty() || passed + failed > passedAhead;
        passedAhead = passed + failed;
        if (!isTested) {
            holds("no check is made", false);
        }
    }

    List<Sentence> sentences() {
        return sentences;
    }

    void due(String call, long got, long want) {
        holds(call + " answered " + got + ", due is " + want, got == want);
    }

    void holds(String fault, boolean isSo) {
        if (isSo) {
            passed++;
        } else {
            failed++;
            if (failed <= MOST_TOLD) {
                System.out.println(test + ": " + under + fault);
            }
        }
    }

    void end() {
        endSentence();
        System.out.println(test + ": " + passed + " checks passed, " + failed + " failed");
        if (failed > 0) {
            System.exit(1);
        }
    }

    static void letters(BetsOnBets x, String text) {
        for (int i = 0; i < text.length(); i++) {
            x.letter(text.charAt(i));
        }
    }

    static int inn(BetsOnBets x, String text) {
        letters(x, text);
        return x.inn();
    }

    static BetsOnBets told(String... texts) {
        BetsOnBets x = new BetsOnBets();
        for (String text : texts) {
            int statements = inn(x, text);
            if (statements <= 0) {
                throw new IllegalStateException(text + " is no INN: " + statements);
            }
        }
        return x;
    }
}
