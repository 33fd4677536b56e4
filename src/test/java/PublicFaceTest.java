import java.io.IOException;
import java.nio.file.Files;
import java.nio.file.Path;
import java.util.ArrayList;
import java.util.List;
import java.util.regex.Matcher;
import java.util.regex.Pattern;

/** "The public face" of the document stands in the program line by line, and in the document's order. */
public final class PublicFaceTest {
    private static final Path DOCUMENT = Path.of("../shared/DOC.md");
    private static final Path PROGRAM = Path.of("src/main/java/CaissonSinker.java");
    private static final Pattern FACE = Pattern.compile("(?s)## The public face\\s+```java\\n(.*?)```");
    private static final Pattern PART =
            Pattern.compile("Ahead of the calls (.*?) the interface says: (---- [a-z ]+)\\.");
    private static final Pattern PROMISE =
            Pattern.compile("## Promise (\\d+): (.*)\\n\\n`(?:int )?(\\w+\\(.*?\\))`");
    private static final int PROMISES = 34;

    private final Checks checks = new Checks("PublicFaceTest");

    public static void main(String[] args) throws IOException {
        new PublicFaceTest().go();
    }

    private void go() throws IOException {
        String source = Files.readString(PROGRAM);
        checks.holds("the program begins with its class", source.contains("public final class CaissonSinker {"));
        // Where the document isn't at hand, it can't be compared.
        if (Files.exists(DOCUMENT)) {
            String document = Files.readString(DOCUMENT);
            compareFace(document, source);
            compareParts(document, source);
            comparePromises(document, source);
        }
        checks.finish();
    }

    private void compareFace(String document, String source) {
        Matcher face = FACE.matcher(document);
        checks.holds("the document has a face", face.find());
        int from = 0;
        for (String line : face.group(1).split("\n")) {
            String member = line.trim();
            if (!member.equals("}")) {
                String wanted = member.endsWith(");") ? member.substring(0, member.length() - 1) + " {" : member;
                int found = source.indexOf(wanted, from);
                checks.holds("not there, or not in this order: " + wanted, found >= 0);
                from = Math.max(from, found);
            }
        }
    }

    /** The headings of the document's four parts stand ahead of the same calls in the program. */
    private void compareParts(String document, String source) {
        Matcher part = PART.matcher(document);
        List<String> headings = new ArrayList<>();
        while (part.find()) {
            headings.add(part.group(2));
            int start = source.indexOf("// " + part.group(2) + "\n");
            int end = source.indexOf("// ----", start + 1);
            checks.holds("no part " + part.group(2), start >= 0 && end > start);
            for (String call : part.group(1).split(", ")) {
                int found = source.indexOf("public int " + call.replace("`", "") + "(");
                checks.holds(call + " stands in the part " + part.group(2), found > start && found < end);
            }
        }
        checks.due("parts", headings.size(), 4);
    }

    private void comparePromises(String document, String source) {
        Matcher promise = PROMISE.matcher(document);
        int count = 0;
        while (promise.find()) {
            count++;
            checks.due("number of a promise", Integer.parseInt(promise.group(1)), count);
            String kind = count == 1 ? "public " : "public int ";
            checks.holds("promise " + count + " has its call", source.contains(kind + promise.group(3) + " {"));
        }
        checks.due("promises", count, PROMISES);
    }
}
