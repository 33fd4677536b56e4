import java.io.IOException;
import java.lang.reflect.Method;
import java.lang.reflect.Modifier;
import java.nio.file.Files;
import java.nio.file.Path;
import java.util.regex.Matcher;
import java.util.regex.Pattern;

/** The examples of README.md: what stands behind a call there is what it answers. */
public final class ReadmeTest {
    private static final Pattern BLOCK = Pattern.compile("(?s)```java\\n(.*?)```");
    private static final Pattern TEXT = Pattern.compile("String text = \"(.*)\";");
    private static final Pattern CALL = Pattern.compile("caisson\\.(\\w+\\([-\\d, ]*\\)); *// (-?\\w+):.*");

    public static void main(String[] args) throws IOException {
        Checks checks = new Checks("ReadmeTest");
        String page = Files.readString(Path.of("README.md"));
        Matcher block = BLOCK.matcher(page);
        int examples = 0;
        while (block.find()) {
            examples++;
            runExample(checks, new Run(checks, "example " + examples + " of README.md"), block.group(1));
        }
        checks.due("examples", examples, 3);
        for (Method method : CaissonSinker.class.getDeclaredMethods()) {
            if (Modifier.isPublic(method.getModifiers())) {
                checks.holds("README.md tells of " + method.getName(), page.contains("`" + method.getName() + "`"));
            }
        }
        checks.finish();
    }

    private static void runExample(Checks checks, Run run, String block) {
        int calls = 0;
        for (String line : block.split("\n")) {
            Matcher text = TEXT.matcher(line);
            Matcher call = CALL.matcher(line);
            if (text.matches()) {
                run.type(text.group(1));
            } else if (call.matches()) {
                run.calls(call.group(1) + " = " + call.group(2));
                calls++;
            } else {
                checks.holds("not understood: " + line, !line.startsWith("caisson."));
            }
        }
        checks.holds("an example has calls", calls > 0);
    }
}
