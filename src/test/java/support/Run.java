import java.lang.reflect.InvocationTargetException;
import java.lang.reflect.Method;
import java.util.HashMap;
import java.util.Map;

/**
 * A run of calls on a new object, written as the document writes its examples: calls with their
 * results behind them, separated by semicolons. A result may be the name of a constant.
 */
final class Run {
    /** Ground that bears nothing down to 300: only ballast tilts, and nothing holds above 200. */
    static final String NO_RESISTANCE = "addLayer(100,0,0) = 1; addLayer(100,0,0) = 2;"
            + "addLayer(100,0,0) = 3;";
    /** What later calls answer is free, so that no test may ask for more. */
    static final int MOST_CALLS = 512;

    private static final Map<String, Method> METHODS = new HashMap<>();

    static {
        for (Method method : CaissonSinker.class.getDeclaredMethods()) {
            if (java.lang.reflect.Modifier.isPublic(method.getModifiers())) {
                METHODS.put(method.getName(), method);
            }
        }
    }

    private final Checks checks;
    private final String name;
    private final CaissonSinker caisson = new CaissonSinker();
    private int made = 0;

    Run(Checks checks, String name) {
        this.checks = checks;
        this.name = name;
    }

    /** Empties the text and types another one into it. */
    Run type(String text) {
        ask("clearText()");
        for (int i = 0; i < text.length(); i++) {
            checks.due(name + ": appendCharacter " + i + " of " + text,
                    ask("appendCharacter(" + (int) text.charAt(i) + ")"), i + 1);
        }
        return this;
    }

    Run calls(String script) {
        for (String row : script.split(";")) {
            if (!row.isBlank()) {
                callRow(row.trim());
            }
        }
        return this;
    }

    private void callRow(String row) {
        int equals = row.indexOf('=');
        if (equals < 0) {
            throw new IllegalArgumentException("no result in " + row);
        }
        String called = row.substring(0, equals).trim();
        checks.due(name + ": " + called, ask(called), value(row.substring(equals + 1).trim()));
    }

    /** The answer of a call, whatever it is. */
    int ask(String called) {
        made++;
        if (made > MOST_CALLS) {
            throw new IllegalStateException(name + " has more than " + MOST_CALLS + " calls");
        }
        int open = called.indexOf('(');
        String inside = called.substring(open + 1, called.indexOf(')')).trim();
        String[] words = inside.isEmpty() ? new String[0] : inside.split(",");
        int[] values = new int[words.length];
        for (int i = 0; i < words.length; i++) {
            values[i] = value(words[i].trim());
        }
        return answer(caisson, called.substring(0, open).trim(), values);
    }

    static int answer(CaissonSinker caisson, String method, int... values) {
        Method found = METHODS.get(method);
        if (found == null) {
            throw new IllegalArgumentException("no method " + method);
        }
        Object[] arguments = new Object[values.length];
        for (int i = 0; i < values.length; i++) {
            arguments[i] = values[i];
        }
        try {
            return (Integer) found.invoke(caisson, arguments);
        } catch (InvocationTargetException thrown) {
            throw new IllegalStateException(method + " threw", thrown.getCause());
        } catch (IllegalAccessException refused) {
            throw new IllegalStateException(method + " is not public", refused);
        }
    }

    private static int value(String word) {
        switch (word) {
            case "INVALID_ARGUMENT": return CaissonSinker.INVALID_ARGUMENT;
            case "ILLEGAL_STATE": return CaissonSinker.ILLEGAL_STATE;
            case "CAPACITY_EXCEEDED": return CaissonSinker.CAPACITY_EXCEEDED;
            case "NONE": return CaissonSinker.NONE;
            case "LEAST": return Integer.MIN_VALUE;
            case "MOST": return Integer.MAX_VALUE;
            default: return Integer.parseInt(word);
        }
    }
}
