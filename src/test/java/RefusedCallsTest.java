import java.util.ArrayList;
import java.util.List;

/**
 * "A method that returns an error code changes nothing", for each argument of each method just outside of its range and far
 * outside, and for each other error code; and the questions change nothing either. All in a situation in which everything is
 * other than at first: layers, boulders, ballast, lubrication, groundwater, tilts, bottoms, 20 records, 6 states, plan and text.
 */
public final class RefusedCallsTest {
    private static final String SENTENCE = "A method that returns an error code changes nothing.";
    private static final String TEXT = "plan 3 4;weight 5;layer 1 2 3;boulder 1 1 1 1;";

    /** A method, what the document says of its arguments, their ranges, and a usual value of each. */
    private static final Object[][] RANGES = {
        {"appendCharacter", "- `character`: character code, 0 to 255", new int[][] {{0, 255}}, new int[] {32}},
        {"resize", "- `columns`: 3 to 7 - `rows`: 3 to 7", new int[][] {{3, 7}, {3, 7}}, new int[] {4, 6}},
        {"setWeight", "- `weight`: 1 to 9999", new int[][] {{1, 9999}}, new int[] {5}},
        {"setStiffness", "- `stiffness`: 0 to 9999", new int[][] {{0, 9999}}, new int[] {5}},
        {"addLayer", "- `thickness`: 1 to 100 - `strength`: 0 to 50 - `friction`: 0 to 9",
            new int[][] {{1, 100}, {0, 50}, {0, 9}}, new int[] {5, 5, 5}},
        {"addBoulder", "- `cell`: number of a cell - `depth`: 1 to 200 - `hardness`: 1 to 50",
            new int[][] {{0, 19}, {1, 200}, {1, 50}}, new int[] {1, 1, 1}},
        {"ground", "- `depth`: 0 to 999 - `what`: 0 strength, 1 friction", new int[][] {{0, 999}, {0, 1}}, new int[] {5, 0}},
        {"boulder", "- `boulder`: number of a boulder - `what`: 0 its cell, 1 its depth, 2 its hardness",
            new int[][] {{0, 2}, {0, 2}}, new int[] {1, 1}},
        {"state", "- `what`: 0 W, 1 L, 2 G, 3 c, 4 a plus 10, 5 b plus 10, 6 all ballast, 7 the number of boulders, 8 the number of"
            + " layers, 9 the depth of the groundwater, 10 the stiffness, 11 the number of records",
            new int[][] {{0, 11}}, new int[] {5}},
        {"edge", "- `cell`: number of a cell - `what`: 0 the depth of the edge, 1 support, 2 skin force, 3 buoyancy, 4 the number of"
            + " the well beside it", new int[][] {{0, 19}, {0, 4}}, new int[] {1, 1}},
        {"bottom", "INVALID_ARGUMENT if cell is no well.", new int[][] {{6, 13}}, new int[] {6}},
        {"moment", "- `axis`: 0 or 1", new int[][] {{0, 1}}, new int[] {0}},
        {"sideResistance", "- `side`: 0 to 3", new int[][] {{0, 3}}, new int[] {0}},
        {"dig", "- `cell`: number of a cell - `amount`: 1 to 10", new int[][] {{6, 13}, {1, 10}}, new int[] {6, 1}},
        {"settle", "- `steps`: 1 to 50", new int[][] {{1, 50}}, new int[] {1}},
        {"setBallast", "- `cell`: number of a cell - `ballast`: 0 to 99", new int[][] {{0, 19}, {0, 99}}, new int[] {1, 1}},
        {"lubricate", "- `side`: 0 to 3 - `on`: 1 or 0", new int[][] {{0, 3}, {0, 1}}, new int[] {0, 1}},
        {"blast", "- `cell`: number of a cell - `charge`: 1 to 50", new int[][] {{0, 19}, {1, 50}}, new int[] {0, 1}},
        {"pump", "- `depth`: 0 to 400", new int[][] {{0, 400}}, new int[] {5}},
        {"record", "- `record`: its number, from 0 - `part`: 0 kind, 1 number, 2 c behind it",
            new int[][] {{0, Integer.MAX_VALUE}, {0, 2}}, new int[] {0, 0}},
        {"wouldSettle", "- `steps`: 1 to 50 - `what`: 0 the number of steps, 1 the tilt a plus 10 then, 2 the tilt b plus 10 then, 3 1"
            + " if it jams at the next step then (after the heave), otherwise 0", new int[][] {{1, 50}, {0, 3}}, new int[] {1, 0}},
        {"bestWell", "- `amount`: 1 to 10", new int[][] {{1, 10}}, new int[] {1}},
        {"makePlan", "- `target`: 1 to 200 - `amount`: 1 to 10", new int[][] {{1, 200}, {1, 10}}, new int[] {100, 1}},
        {"plan", "- `k`: index, from 0 - `part`: 0 the well, 1 c after it, 2 |a| + |b| after it",
            new int[][] {{0, Integer.MAX_VALUE}, {0, 2}}, new int[] {0, 0}},
        {"carryOut", "- `count`: 1 to the length of the plan", new int[][] {{1, 12}}, new int[] {1}}};

    private final Checks checks = new Checks("RefusedCallsTest");

    public static void main(String[] args) {
        new RefusedCallsTest().go();
    }

    private void go() {
        new Sentence(checks, SENTENCE);
        Trace rich = new Trace(checks, SENTENCE, RefusedCallsTest::prepare);
        for (Object[] row : RANGES) {
            Sentence range = new Sentence(checks, (String) row[1]);
            for (String call : atTheLimits((String) row[0], (int[][]) row[2], (int[]) row[3])) {
                Run run = range.run((String) row[0]);
                prepare(run);
                checks.holds(call + " is out of range", run.ask(call) != CaissonSinker.INVALID_ARGUMENT);
            }
            for (String call : outOfRange((String) row[0], (int[][]) row[2], (int[]) row[3])) {
                rich.none(call + " = INVALID_ARGUMENT");
            }
        }
        notOfItsKind(rich);
        illegalStates(rich);
        questions(rich);
        onNewObject();
        full();
        checks.finish();
    }

    private static void prepare(Run run) {
        run.calls("addLayer(20,3,1) = 1; addLayer(30,6,2) = 2; setWeight(900) = 600; setStiffness(150) = 400; addBoulder(0,3,5) = 0;"
                + "addBoulder(6,7,7) = 1; addBoulder(19,40,50) = 2; makePlan(200,2) = 12; lubricate(2,1) = 1; lubricate(1,1) = 2;"
                + "settle(1) = 1; setBallast(5,40) = 0; setBallast(8,7) = 0;");
        for (int depth = 30; depth < 43; depth++) {
            run.calls("pump(" + depth + ") = " + (depth == 30 ? 400 : depth - 1));
        }
        run.calls("dig(6,9) = 7; dig(12,2) = 2; dig(7,3) = 3; settle(3) = 3; state(3) = 4; state(4) = 8; state(5) = 8; state(11) = 20;"
                + "bottom(6) = 7; record(19,0) = 1; record(20,0) = NONE");
        run.type(TEXT);
    }

    private static List<String> atTheLimits(String method, int[][] ranges, int[] usual) {
        List<String> calls = new ArrayList<>();
        for (int i = 0; i < ranges.length; i++) {
            calls.add(call(method, usual, i, ranges[i][0]));
            calls.add(call(method, usual, i, ranges[i][1]));
        }
        return calls;
    }

    private static List<String> outOfRange(String method, int[][] ranges, int[] usual) {
        List<String> calls = new ArrayList<>();
        for (int i = 0; i < ranges.length; i++) {
            calls.add(call(method, usual, i, ranges[i][0] - 1));
            calls.add(call(method, usual, i, Integer.MIN_VALUE));
            if (ranges[i][1] < Integer.MAX_VALUE) {
                calls.add(call(method, usual, i, ranges[i][1] + 1));
                calls.add(call(method, usual, i, Integer.MAX_VALUE));
            }
        }
        return calls;
    }

    private static String call(String method, int[] usual, int place, int value) {
        StringBuilder call = new StringBuilder(method).append('(');
        for (int i = 0; i < usual.length; i++) {
            call.append(i == 0 ? "" : ",").append(i == place ? value : usual[i]);
        }
        return call.append(')').toString();
    }

    /** Edge cells where a well is wanted, wells where an edge cell is. */
    private void notOfItsKind(Trace rich) {
        for (int cell = 0; cell < 20; cell++) {
            boolean well = cell % 5 > 0 && cell % 5 < 4 && cell / 5 > 0 && cell / 5 < 3;
            if (well) {
                rich.none("edge(" + cell + ",0) = INVALID_ARGUMENT");
            } else {
                rich.none("bottom(" + cell + ") = INVALID_ARGUMENT");
                rich.none("dig(" + cell + ",1) = INVALID_ARGUMENT");
            }
        }
    }

    private void illegalStates(Trace rich) {
        for (String call : new String[] {"addBoulder(0,3,9)", "addBoulder(19,40,50)", "dig(6,1)", "dig(6,10)", "setBallast(5,40)",
            "setBallast(0,0)", "lubricate(2,1)", "lubricate(0,0)", "blast(1,50)", "blast(19,50)", "blast(12,50)", "pump(42)",
            "makePlan(4,1)", "makePlan(1,10)"}) {
            rich.none(call + " = ILLEGAL_STATE");
        }
        Trace holding = new Trace(checks, SENTENCE, run -> {
            prepare(run);
            run.calls("setWeight(1) = 900; setStiffness(0) = 150");
        });
        holding.none("settle(1) = ILLEGAL_STATE");
        holding.none("settle(50) = ILLEGAL_STATE");
        holding.none("settle(51) = INVALID_ARGUMENT");
    }

    /** Those that answer NONE are among them. */
    private void questions(Trace rich) {
        for (String call : new String[] {"ground(0,0)", "ground(999,1)", "boulder(0,0)", "boulder(2,2)", "state(0)", "state(11)",
            "edge(0,0)", "edge(0,1)", "edge(0,2)", "edge(0,3)", "edge(0,4)", "bottom(6)", "surplus()", "moment(0)", "moment(1)",
            "nextStep()", "sideResistance(0)", "sideResistance(3)", "stuckDepth()", "ballastNeeded()", "record(0,0)", "record(19,2)",
            "record(20,0) = NONE", "wouldSettle(1,0)", "wouldSettle(50,0)", "wouldSettle(50,1)", "wouldSettle(50,2)",
            "wouldSettle(50,3)", "bestWell(1)", "bestWell(10)", "plan(0,0)", "plan(11,2)", "plan(12,0) = NONE", "highSide()"}) {
            rich.none(call);
        }
        Trace noWell = new Trace(checks, SENTENCE, run -> run.calls("makePlan(1,1) = 1; resize(3,3) = 1;" + Run.NO_RESISTANCE
                + "addBoulder(4,1,9) = 0; dig(4,1) = 1;").type(TEXT));
        for (String call : new String[] {"bestWell(1)", "bestWell(10)", "stuckDepth()", "highSide()", "record(1,0)", "plan(1,0)"}) {
            noWell.none(call + " = NONE");
        }
    }

    private void onNewObject() {
        Trace first = new Trace(checks, SENTENCE, run -> run.calls(""));
        for (String call : new String[] {"setBallast(0,0)", "lubricate(0,0)", "blast(0,1)", "blast(6,50)", "pump(400)", "undo()"}) {
            first.none(call + " = ILLEGAL_STATE");
        }
        for (String call : new String[] {"carryOut(1)", "boulder(0,0)", "settle(0)", "dig(0,1)", "resize(2,3)", "makePlan(0,1)"}) {
            first.none(call + " = INVALID_ARGUMENT");
        }
        for (String call : new String[] {"record(0,0)", "plan(0,0)", "highSide()"}) {
            first.none(call + " = NONE");
        }
    }

    private void full() {
        Trace text = new Trace(checks, SENTENCE, run -> run.calls("dig(6,1) = 1").type(TEXT + " ".repeat(200 - TEXT.length())));
        text.none("appendCharacter(32) = CAPACITY_EXCEEDED");
        text.none("appendCharacter(256) = INVALID_ARGUMENT");
        Trace lists = new Trace(checks, SENTENCE, run -> {
            for (int i = 1; i <= 8; i++) {
                run.calls("addLayer(" + i + "," + i + "," + i + ") = " + i);
            }
            for (int i = 1; i <= 10; i++) {
                run.calls("addBoulder(6," + i + "," + i + ") = " + (i - 1));
            }
        });
        lists.none("addLayer(1,1,1) = CAPACITY_EXCEEDED");
        lists.none("addLayer(1,1,10) = INVALID_ARGUMENT");
        lists.none("addBoulder(6,11,1) = CAPACITY_EXCEEDED");
        lists.none("addBoulder(0,1,1) = CAPACITY_EXCEEDED");
        lists.none("addBoulder(6,10,1) = ILLEGAL_STATE");
        lists.none("addBoulder(6,10,0) = INVALID_ARGUMENT");
    }
}
