import java.util.ArrayList;
import java.util.List;
import java.util.function.Consumer;

/**
 * Shows that a call changes nothing: after it, every question is answered as if it had not been
 * made. What no question tells (ballast of a cell, lubrication, text, saved states, the amount of
 * the plan) is brought to light by further calls, so each row of questions has an object of its own.
 */
final class Trace {
    private static final List<List<String>> QUESTIONS = List.of(ofProperties(), ofCells(),
            ofBallastAndLubrication(), ofSavedStates(), ofText(), ofTextLength(), ofPlan());

    private final Checks checks;
    private final String name;
    private final Consumer<Run> before;
    private final List<List<Integer>> untouched = new ArrayList<>();

    Trace(Checks checks, String name, Consumer<Run> before) {
        this.checks = checks;
        this.name = name;
        this.before = before;
        for (List<String> questions : QUESTIONS) {
            Run run = new Run(checks, name);
            before.accept(run);
            untouched.add(answers(run, questions));
        }
    }

    /** The row is a call, with or without the answer that is due. */
    void none(String row) {
        for (int i = 0; i < QUESTIONS.size(); i++) {
            Run run = new Run(checks, name);
            before.accept(run);
            if (row.indexOf('=') < 0) {
                run.ask(row);
            } else {
                run.calls(row);
            }
            List<Integer> touched = answers(run, QUESTIONS.get(i));
            for (int k = 0; k < touched.size(); k++) {
                checks.due(name + ": after " + row + ": " + QUESTIONS.get(i).get(k),
                        touched.get(k), untouched.get(i).get(k));
            }
        }
    }

    private static List<Integer> answers(Run run, List<String> questions) {
        List<Integer> answers = new ArrayList<>();
        for (String question : questions) {
            answers.add(run.ask(question));
        }
        return answers;
    }

    private static void ask(List<String> list, String method, int first, int last) {
        for (int i = first; i <= last; i++) {
            list.add(method + "(" + i + ")");
        }
    }

    private static void askParts(List<String> list, String method, int last, int lastPart) {
        for (int i = 0; i <= last; i++) {
            for (int part = 0; part <= lastPart; part++) {
                list.add(method + "(" + i + "," + part + ")");
            }
        }
    }

    private static List<String> ofProperties() {
        List<String> list = new ArrayList<>();
        ask(list, "state", 0, 11);
        ask(list, "moment", 0, 1);
        ask(list, "sideResistance", 0, 3);
        list.addAll(List.of("surplus()", "nextStep()", "stuckDepth()", "ballastNeeded()", "highSide()",
                "bestWell(3)", "wouldSettle(50,0)", "wouldSettle(50,1)", "wouldSettle(50,2)",
                "wouldSettle(50,3)"));
        askParts(list, "boulder", 10, 2);
        askParts(list, "record", 20, 2);
        askParts(list, "plan", 12, 2);
        for (int depth = 0; depth <= 120; depth += 4) {
            list.add("ground(" + depth + ",0)");
            list.add("ground(" + depth + ",1)");
        }
        return list;
    }

    private static List<String> ofCells() {
        List<String> list = new ArrayList<>();
        askParts(list, "edge", 48, 4);
        ask(list, "bottom", 0, 48);
        return list;
    }

    private static List<String> ofBallastAndLubrication() {
        List<String> list = new ArrayList<>();
        for (int cell = 0; cell <= 48; cell++) {
            list.add("setBallast(" + cell + ",0)");
        }
        for (int side = 0; side <= 3; side++) {
            list.add("lubricate(" + side + ",1)");
        }
        list.addAll(List.of("state(6)", "surplus()"));
        return list;
    }

    private static List<String> ofSavedStates() {
        List<String> list = new ArrayList<>();
        for (int i = 0; i <= 6; i++) {
            list.add("undo()");
            ask(list, "state", 0, 11);
            list.addAll(List.of("surplus()", "moment(0)", "moment(1)", "record(0,0)", "record(0,1)",
                    "record(19,1)", "bottom(6)", "bottom(7)", "bottom(12)", "boulder(0,2)",
                    "ground(0,0)"));
        }
        return list;
    }

    private static List<String> ofText() {
        List<String> list = new ArrayList<>();
        list.add("load()");
        ask(list, "state", 0, 11);
        list.addAll(List.of("boulder(0,0)", "boulder(0,1)", "ground(0,0)", "ground(0,1)", "plan(0,0)",
                "clearText()", "undo()"));
        return list;
    }

    private static List<String> ofTextLength() {
        return List.of("appendCharacter(59)", "clearText()", "appendCharacter(59)", "load()");
    }

    private static List<String> ofPlan() {
        List<String> list = new ArrayList<>();
        list.addAll(List.of("carryOut(1)", "carryOut(2)", "carryOut(12)", "state(3)", "state(4)", "state(5)"));
        ask(list, "bottom", 0, 48);
        list.addAll(List.of("undo()", "state(3)", "state(11)"));
        return list;
    }
}
