import java.io.IOException;
import java.nio.file.Files;
import java.nio.file.Path;

/** A sentence of the document, word by word, and the runs that show on both sides that it holds. */
final class Sentence {
    private static final Path DOCUMENT = Path.of("../shared/DOC.md");
    private static String document = null;

    private final Checks checks;
    private final String words;

    Sentence(Checks checks, String words) {
        this.checks = checks;
        this.words = words;
        checks.holds("the document does not say: " + words, documentHas(words));
    }

    /** Where the document isn't at hand, its words can't be compared. */
    private static boolean documentHas(String words) {
        if (!Files.exists(DOCUMENT)) {
            return true;
        }
        if (document == null) {
            try {
                document = Files.readString(DOCUMENT).replaceAll("\\s+", " ");
            } catch (IOException failed) {
                throw new IllegalStateException(failed);
            }
        }
        return document.contains(words);
    }

    Run run() {
        return new Run(checks, words);
    }

    Run run(String which) {
        return new Run(checks, words + " [" + which + "]");
    }

    Sentence holds(String script) {
        run().calls(script);
        return this;
    }

    /** Each of the calls is answered so after those before, and leaves no trace. */
    Sentence noTrace(String before, String... rows) {
        Trace trace = new Trace(checks, words, run -> run.calls(before));
        for (String row : rows) {
            trace.none(row);
        }
        return this;
    }

    /** The same, with a text that stands there. */
    Sentence noTraceOnText(String text, String before, String... rows) {
        Trace trace = new Trace(checks, words, run -> run.calls(before).type(text));
        for (String row : rows) {
            trace.none(row);
        }
        return this;
    }
}
