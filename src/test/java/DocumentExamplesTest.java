import java.io.IOException;
import java.nio.file.Files;
import java.nio.file.Path;
import java.util.regex.Matcher;
import java.util.regex.Pattern;

/** The five examples of the document, call by call; and as they stand in the document, if it is at hand. */
public final class DocumentExamplesTest {
    private static final Path DOCUMENT = Path.of("../shared/DOC.md");
    private static final Pattern EXAMPLE = Pattern.compile("(?m)^(\\d)\\. [^:]*: (.*)\\.$");

    public static void main(String[] args) throws IOException {
        Checks checks = new Checks("DocumentExamplesTest");

        new Run(checks, "example 1").calls("addLayer(50,3,1) = 1; surplus() = 2316; edge(0,1) = 6;"
                + "edge(0,2) = 0; dig(6,2) = 2; settle(5) = 5; state(3) = 5; surplus() = 1952;"
                + "moment(0) = 0");

        new Run(checks, "example 2").calls("appendCharacter(112) = 1; appendCharacter(108) = 2;"
                + "appendCharacter(97) = 3; appendCharacter(110) = 4; appendCharacter(32) = 5;"
                + "appendCharacter(51) = 6; appendCharacter(32) = 7; appendCharacter(51) = 8;"
                + "appendCharacter(59) = 9; load() = 1; state(0) = 3; bottom(4) = 0;"
                + "ground(0,0) = 60; nextStep() = 1; edge(0,4) = 4; ballastNeeded() = 0");

        new Run(checks, "example 3").calls("addLayer(20,2,1) = 1; setWeight(300) = 600;"
                + "makePlan(5,3) = 1; plan(0,0) = 6; plan(0,1) = 20; carryOut(1) = 20;"
                + "state(3) = 20; stuckDepth() = 21");

        new Run(checks, "example 4").calls("addBoulder(0,1,10) = 0; boulder(0,2) = 10;"
                + "blast(0,4) = -1000002; setBallast(0,20) = 0; state(6) = 20; record(0,0) = 2;"
                + "highSide() = -1000009; undo() = 1");

        new Run(checks, "example 5").calls("appendCharacter(112) = 1; appendCharacter(108) = 2;"
                + "appendCharacter(97) = 3; appendCharacter(110) = 4; appendCharacter(32) = 5;"
                + "appendCharacter(51) = 6; appendCharacter(59) = 7; load() = -16;"
                + "clearText() = 7; bottom(0) = -1000001; edge(6,0) = -1000001;"
                + "dig(6,11) = -1000001; settle(5) = 1; undo() = 0");

        if (Files.exists(DOCUMENT)) {
            runDocument(checks);
        }
        checks.finish();
    }

    private static void runDocument(Checks checks) throws IOException {
        Matcher example = EXAMPLE.matcher(Files.readString(DOCUMENT));
        int examples = 0;
        while (example.find()) {
            examples++;
            new Run(checks, "the document's example " + example.group(1)).calls(example.group(2));
        }
        checks.due("examples in the document", examples, 5);
    }
}
