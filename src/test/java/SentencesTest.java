import java.io.IOException;
import java.nio.file.Files;
import java.nio.file.Path;
import java.util.Arrays;
import java.util.LinkedHashMap;
import java.util.Map;

/** Each sentence of DOC.md, one by one: a test of its own for each, named by the words of the document. */
public final class SentencesTest {
    private static final Path DOCUMENT = Path.of("../shared/DOC.md");

    public static void main(String[] args) throws IOException {
        Check check = new Check("SentencesTest");
        new OfTerms(check).run();
        new OfInn(check).run();
        new OfWays(check).run();
        new OfWords(check).run();
        new OfRefusals(check).run();
        new OfPromises(check).run();
        if (Files.isReadable(DOCUMENT)) {
            noteWhatIsNotTested(check, Files.readString(DOCUMENT));
        }
        check.end();
    }

    /** The document may be put in other words later: that is a note for whoever reads it, and no fault of the class. */
    private static void noteWhatIsNotTested(Check check, String document) {
        Map<String, boolean[]> tested = new LinkedHashMap<>();
        Map<String, String> texts = underHeadings(document);
        texts.forEach((heading, text) -> tested.put(heading, new boolean[text.length()]));
        for (Check.Sentence sentence : check.sentences()) {
            String text = texts.getOrDefault(sentence.heading(), "");
            int at = text.indexOf(sentence.words());
            if (at < 0) {
                System.out.println("note: under " + sentence.heading() + " DOC.md does not say: " + sentence.words());
            } else {
                Arrays.fill(tested.get(sentence.heading()), at, at + sentence.words().length(), true);
            }
        }
        texts.forEach((heading, text) -> noteGaps(heading, text, tested.get(heading)));
    }

    private static void noteGaps(String heading, String text, boolean[] tested) {
        StringBuilder gap = new StringBuilder();
        for (int i = 0; i <= text.length(); i++) {
            if (i < text.length() && !tested[i]) {
                gap.append(text.charAt(i));
                continue;
            }
            if (gap.toString().matches("(?s).*\\w.*")) {
                System.out.println("note: under " + heading + " DOC.md says what no test names: " + gap);
            }
            gap.setLength(0);
        }
    }

    private static Map<String, String> underHeadings(String document) {
        Map<String, String> texts = new LinkedHashMap<>();
        for (String part : document.split("(?m)^## ")) {
            String heading = part.lines().findFirst().orElse("").replaceAll(":.*", "");
            if (heading.equals("Terms") || heading.startsWith("Promise ")) {
                texts.put(heading, part.substring(part.indexOf('\n') + 1).replaceAll("```(text)?|(?m)^`.*?`|==== II\\.", " ")
                        .replaceAll("\\s+", " "));
            }
        }
        return texts;
    }
}
