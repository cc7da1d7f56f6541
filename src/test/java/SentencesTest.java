import java.io.IOException;
import java.nio.file.Files;
import java.nio.file.Path;

/**
 * The document sentence by sentence: each has a test of its own, which names it by its words.
 * With the argument strict it fails, too, if such words do not stand in the document, or if words of the terms or
 * the promises are in no test.
 */
public final class SentencesTest {
    private static final Path DOCUMENT = Path.of("../shared/DOC.md");

    /** Without letters and digits nothing is said. */
    private static boolean isSilent(String words) {
        return words.chars().noneMatch(Character::isLetterOrDigit);
    }

    private static String plain(String text) {
        return text.replace("```text", "").replace("```", "").replaceAll("\\s+", " ");
    }

    private static boolean documentIsCovered() throws IOException {
        String text = Files.readString(DOCUMENT);
        String terms = plain(text.substring(text.indexOf("## Terms") + 8, text.indexOf("## Not promised")));
        terms = terms.replaceAll("## Promise \\d+: [A-Za-z ]+? `[^`]*`:", " ").replaceAll("==== \\d\\.", "");
        String all = plain(text);
        boolean fine = true;
        for (String words : Kit.said()) {
            if (!all.contains(plain(words))) {
                fine = false;
                System.out.println("not in the document: " + words);
            }
            terms = terms.replace(plain(words), "\n");
        }
        for (String rest : terms.split("\n")) {
            if (!isSilent(rest)) {
                fine = false;
                System.out.println("in no test: " + rest.strip());
            }
        }
        return fine;
    }

    public static void main(String[] args) throws IOException {
        TextSentences.all();
        StepSentences.all();
        AskedSentences.all();
        PromiseSentences.all();
        CornerSentences.all();
        Kit.endSentence();
        boolean strict = args.length > 0 && args[0].equals("strict");
        if (Files.exists(DOCUMENT) && !documentIsCovered() && strict) {
            System.exit(1);
        }
        Kit.end("SentencesTest");
    }
}
