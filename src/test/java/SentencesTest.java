import java.io.IOException;
import java.nio.file.Files;
import java.nio.file.Path;
import java.util.Map;
import java.util.regex.Matcher;
import java.util.regex.Pattern;

/** A test of its own for each sentence of the document; and that none of them is left out. */
public final class SentencesTest {
    private static final Path DOCUMENT = Path.of("..", "shared", "DOC.md");
    /** What is no sentence: the headings, and the marks of the text. */
    private static final Pattern HEADING = Pattern.compile(
        "(?s)## The public face.*?## Terms|## Promise \\d+: [\\w ]+\n|```text|==== I+\\. [A-Z ]+\\.|====");

    public static void main(String[] args) throws IOException {
        Checks checks = new Checks("SentencesTest");
        Part[] parts = {new WholePart(checks), new ProgramsPart(checks), new ToldPart(checks),
            new FoldedPart(checks), new RoutinesPart(checks), new ImagePart(checks), new WordsPart(checks),
            new PromisesPart(checks), new RunPromisesPart(checks)};
        for (Part part : parts) {
            part.check();
        }
        if (Files.exists(DOCUMENT)) {
            noneIsLeftOut(checks, Files.readString(DOCUMENT));
        } else {
            System.out.println("SentencesTest: without " + DOCUMENT + " the quotes are not compared");
        }
        checks.end();
    }

    /** Each quote stands in the document, and what is left of it without them has no word. */
    private static void noneIsLeftOut(Checks checks, String document) {
        Map<String, Integer> sentences = checks.sentences();
        checks.noSentence();
        int begin = document.indexOf("A press for programs");
        int end = document.indexOf("## Not promised");
        checks.holds("the document has its headings", begin >= 0 && end > begin);
        String text = HEADING.matcher(document.substring(Math.max(begin, 0), Math.max(end, 0))).replaceAll(" ")
            .replaceAll("\\s+", " ");
        StringBuilder left = new StringBuilder(text);
        for (String quote : sentences.keySet()) {
            int at = text.indexOf(quote);
            checks.holds("it stands in the document once: " + quote, at >= 0 && text.indexOf(quote, at + 1) < 0);
            checks.holds("it is checked: " + quote, sentences.get(quote) > 0);
            for (int k = at; at >= 0 && k < at + quote.length(); k++) {
                left.setCharAt(k, ' ');
            }
        }
        Matcher words = Pattern.compile("[^ ]*\\w[^ ]*( [^ ]+)*").matcher(left);
        while (words.find()) {
            checks.holds("a test has this sentence: " + words.group(), false);
        }
    }
}
