import java.lang.reflect.Constructor;
import java.lang.reflect.Field;
import java.lang.reflect.Member;
import java.lang.reflect.Method;
import java.lang.reflect.Modifier;
import java.nio.file.Files;
import java.nio.file.Path;
import java.util.HashSet;
import java.util.Set;
import java.util.TreeSet;
import java.util.regex.Matcher;
import java.util.regex.Pattern;

/** The face of the class, and those rules of LANGUAGE.md that can be seen in the source as text. */
public final class LanguageRulesTest {
    private static final String FACE = "appendCharacter(1) clearText(0) load(0) resize(2) setWeight(1)"
            + " setStiffness(1) addLayer(3) addBoulder(3) ground(2) boulder(2) state(1) edge(2) bottom(1)"
            + " surplus(0) moment(1) nextStep(0) sideResistance(1) stuckDepth(0) ballastNeeded(0) dig(2)"
            + " settle(1) setBallast(2) lubricate(2) blast(2) pump(1) record(2) wouldSettle(2) bestWell(1)"
            + " makePlan(2) plan(2) carryOut(1) highSide(0) undo(0)";
    private static final Path PROGRAM = Path.of("src/main/java/CaissonSinker.java");
    private static final int MOST_LINES_OF_A_METHOD = 60;

    private final Checks checks = new Checks("LanguageRulesTest");

    public static void main(String[] args) throws Exception {
        new LanguageRulesTest().go();
    }

    private void go() throws Exception {
        face();
        constants();
        nestedClasses();
        String source = Files.readString(PROGRAM);
        String code = withoutCommentsAndTexts(source);
        words(code);
        library(code);
        methodLengths(code);
        checks.finish();
    }

    private void face() {
        checks.holds("the class is public and final", Modifier.isPublic(CaissonSinker.class.getModifiers())
                && Modifier.isFinal(CaissonSinker.class.getModifiers()));
        Set<String> found = new TreeSet<>();
        for (Method method : CaissonSinker.class.getDeclaredMethods()) {
            if (!Modifier.isPrivate(method.getModifiers())) {
                found.add(method.getName() + "(" + method.getParameterCount() + ")");
                checks.holds(method + " answers an int", method.getReturnType() == int.class);
                for (Class<?> type : method.getParameterTypes()) {
                    checks.holds(method + " takes ints", type == int.class);
                }
            }
        }
        checks.holds("the methods are those of the document: " + found,
                found.equals(new TreeSet<>(Set.of(FACE.split(" ")))));
        checks.due("constructors", CaissonSinker.class.getDeclaredConstructors().length, 1);
        for (Constructor<?> made : CaissonSinker.class.getDeclaredConstructors()) {
            checks.holds(made + " is public and bare", Modifier.isPublic(made.getModifiers())
                    && made.getParameterCount() == 0);
        }
    }

    private void constants() {
        checks.due("INVALID_ARGUMENT", CaissonSinker.INVALID_ARGUMENT, -1000001);
        checks.due("ILLEGAL_STATE", CaissonSinker.ILLEGAL_STATE, -1000002);
        checks.due("CAPACITY_EXCEEDED", CaissonSinker.CAPACITY_EXCEEDED, -1000003);
        checks.due("NONE", CaissonSinker.NONE, -1000009);
        int open = 0;
        for (Field field : CaissonSinker.class.getDeclaredFields()) {
            open += Modifier.isPrivate(field.getModifiers()) ? 0 : 1;
        }
        checks.due("fields that are not private", open, 4);
    }

    private void nestedClasses() {
        Set<String> face = new HashSet<>();
        for (String method : FACE.split(" ")) {
            face.add(method.substring(0, method.indexOf('(')));
        }
        Class<?>[] nested = CaissonSinker.class.getDeclaredClasses();
        checks.holds("some twelve classes", nested.length + 1 <= 12);
        for (Class<?> type : nested) {
            checks.holds(type + " is static and not public", Modifier.isStatic(type.getModifiers())
                    && !Modifier.isPublic(type.getModifiers()) && !Modifier.isProtected(type.getModifiers()));
            for (Method method : type.getDeclaredMethods()) {
                checks.holds(method + " bears no name of the face", !face.contains(method.getName()));
                checks.holds(method + " takes at most seven", method.getParameterCount() <= 7);
            }
            checks.holds(type + " has some twenty fields", countOf(type.getDeclaredFields()) <= 20);
        }
        for (Method method : CaissonSinker.class.getDeclaredMethods()) {
            checks.holds(method + " bears a name of its own", !Modifier.isPrivate(method.getModifiers())
                    || !face.contains(method.getName()));
        }
    }

    /** Constants don't count; any other static field is wrong. */
    private int countOf(Field[] fields) {
        int count = 0;
        for (Member field : fields) {
            boolean constant = Modifier.isStatic(field.getModifiers());
            checks.holds(field + " is final if static", !constant || Modifier.isFinal(field.getModifiers()));
            count += constant ? 0 : 1;
        }
        return count;
    }

    private static String withoutCommentsAndTexts(String source) {
        return source.replaceAll("(?s)/\\*.*?\\*/", "").replaceAll("//[^\\n]*", "")
                .replaceAll("\"(\\\\.|[^\"\\\\])*\"", "\"\"").replaceAll("'(\\\\.|[^'\\\\])'", "' '");
    }

    private void words(String code) {
        for (String word : "throw throws try catch synchronized assert import package instanceof native volatile"
                .split(" ")) {
            checks.holds("no " + word, !Pattern.compile("\\b" + word + "\\b").matcher(code).find());
        }
        checks.holds("no lambda", !code.contains("->"));
        checks.holds("no method reference", !code.contains("::"));
        checks.holds("no annotation", !code.contains("@"));
    }

    /** Of the library the program uses these names alone. */
    private void library(String code) {
        Matcher matcher = Pattern.compile("\\b(Math|System|Arrays|Integer|Long|String|Character)\\.(\\w+)")
                .matcher(code);
        Set<String> allowed = Set.of("Math.max", "Math.min", "Math.abs", "Math.floorDiv", "Math.floorMod",
                "System.arraycopy");
        while (matcher.find()) {
            checks.holds("not allowed: " + matcher.group(), allowed.contains(matcher.group()));
        }
    }

    private void methodLengths(String code) {
        String[] lines = code.split("\n");
        int start = -1;
        String name = "";
        String end = "";
        for (int i = 0; i < lines.length; i++) {
            Matcher matcher = Pattern.compile("^( {4}| {8})[\\w\\[\\]]+( [\\w\\[\\]]+)*\\(.*").matcher(lines[i]);
            if (matcher.matches() && !lines[i].trim().endsWith(";")) {
                start = i;
                name = lines[i].trim();
                end = matcher.group(1) + "}";
            }
            if (start >= 0 && lines[i].equals(end)) {
                checks.holds(name + " has " + (i - start + 1) + " lines", i - start + 1 <= MOST_LINES_OF_A_METHOD);
                start = -1;
            }
        }
    }
}
