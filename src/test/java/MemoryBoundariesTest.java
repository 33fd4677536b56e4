/** Terms: the latest 20 records, the 6 saved states and the seventh, the plan that is kept, and 512 calls. */
public final class MemoryBoundariesTest {
    private static final String[] RECORDED = {"dig(7,3) = 3", "settle(2) = 2", "setBallast(3,3) = 0", "lubricate(3,1) = 1",
        "blast(6,4) = 5", "pump(3) = 400"};
    private static final int[] NUMBER_OF_RECORD = {7, 2, 3, 3, 6, 3};
    /** What saves a state without a record. */
    private static final String[] SAVED_ONLY = {"load() = 0", "resize(5,4) = 6", "setStiffness(400) = 400",
        "setWeight(600) = 600", "addBoulder(0,1,1) = 0", "addLayer(1,1,1) = 2", "carryOut(1) = 23"};
    private static final String BEFORE = "addLayer(100,0,0) = 1; addBoulder(6,2,9) = 0; settle(3) = 3; dig(6,9) = 2;"
            + "makePlan(4,1) = 1;";

    private final Checks checks = new Checks("MemoryBoundariesTest");

    public static void main(String[] args) {
        new MemoryBoundariesTest().go();
    }

    private void go() {
        whatIsRecorded();
        whatIsNotRecorded();
        depthBehindIt();
        latestTwenty();
        whatSavesAState();
        whatSavesNone();
        sixStates();
        seventhState();
        everySave();
        allButTextAndPlan();
        undoOfEveryCall();
        undoOfRecords();
        planIsKept();
        manyCalls();
        objectsApart();
        checks.finish();
    }

    private Sentence says(String words) {
        return new Sentence(checks, words);
    }

    private void whatIsRecorded() {
        Sentence said = says("Each call of dig(), settle(), setBallast(), lubricate(), blast() and pump() that succeeds adds a"
                + " record: the kind (0 to 5 in this order), a number (see the methods), and c behind it.");
        for (int kind = 0; kind < RECORDED.length; kind++) {
            int depth = kind == 1 ? 5 : 3;
            said.run(RECORDED[kind]).calls(BEFORE + "state(11) = 2;" + RECORDED[kind] + "; state(11) = 3; record(0,0) = " + kind
                    + "; record(0,1) = " + NUMBER_OF_RECORD[kind] + "; record(0,2) = " + depth
                    + "; record(1,0) = 0; record(1,1) = 6; record(1,2) = 3; record(2,0) = 1; record(2,1) = 3; record(3,0) = NONE");
        }
        // With a call that fails there is none: one case of each kind, with either error code.
        said.noTrace(BEFORE, "dig(6,1) = ILLEGAL_STATE", "dig(0,1) = INVALID_ARGUMENT", "settle(0) = INVALID_ARGUMENT",
                "setBallast(3,0) = ILLEGAL_STATE", "setBallast(3,100) = INVALID_ARGUMENT", "lubricate(3,0) = ILLEGAL_STATE",
                "lubricate(3,2) = INVALID_ARGUMENT", "blast(0,1) = ILLEGAL_STATE", "blast(6,0) = INVALID_ARGUMENT",
                "pump(400) = ILLEGAL_STATE", "pump(401) = INVALID_ARGUMENT");
        said.noTrace("setWeight(1) = 600; dig(7,1) = 1", "settle(1) = ILLEGAL_STATE");
    }

    private void whatIsNotRecorded() {
        Sentence said = says("Each call of dig(), settle(), setBallast(), lubricate(), blast() and pump() that succeeds adds a"
                + " record: the kind (0 to 5 in this order), a number (see the methods), and c behind it.");
        for (String call : SAVED_ONLY) {
            int records = call.startsWith("load") ? 0 : 2;
            said.run(call).calls(BEFORE + call + "; state(11) = " + records + "; record(2,0) = NONE; record(0,0) = "
                    + (records == 0 ? "NONE" : "0"));
        }
        says("No records are added.").holds(BEFORE + "carryOut(1) = 23; state(11) = 2; record(0,1) = 6; record(0,2) = 3");
    }

    private void depthBehindIt() {
        says("The number of the record is the number of steps.").holds("addLayer(9,0,0) = 1; settle(4) = 4; record(0,0) = 1;"
                + "record(0,1) = 4; record(0,2) = 4; settle(5) = 5; record(0,1) = 5; record(0,2) = 9; record(1,2) = 4;"
                + "settle(1) = ILLEGAL_STATE; state(11) = 2");
        // c is that behind the call, also where a later one sinks further.
        says("Each call of dig(), settle(), setBallast(), lubricate(), blast() and pump() that succeeds adds a record: the kind"
                + " (0 to 5 in this order), a number (see the methods), and c behind it.").holds(Run.NO_RESISTANCE
                + "pump(0) = 400; settle(50) = 50; setBallast(19,1) = 0; settle(1) = 1; lubricate(0,1) = 1; record(4,2) = 0;"
                + "record(3,2) = 50; record(2,2) = 50; record(1,2) = 51; record(0,2) = 51; record(2,1) = 19; record(0,1) = 0");
    }

    private void latestTwenty() {
        Sentence said = says("The latest 20 records are kept; the newest one has the number 0.");
        Run run = said.run("none").calls("state(11) = 0; record(0,0) = NONE");
        for (int i = 1; i <= 19; i++) {
            run.calls("pump(" + i + ") = " + (i == 1 ? 400 : i - 1));
        }
        run.calls("state(11) = 19; record(0,1) = 19; record(18,1) = 1; record(19,1) = NONE; record(20,1) = NONE;"
                + "pump(20) = 19; state(11) = 20; record(0,1) = 20; record(18,1) = 2; record(19,1) = 1; record(20,1) = NONE;"
                + "pump(21) = 20; state(11) = 20; record(0,1) = 21; record(1,1) = 20; record(18,1) = 3; record(19,1) = 2;"
                + "record(20,1) = NONE; dig(6,1) = 1; state(11) = 20; record(0,0) = 0; record(0,1) = 6; record(1,0) = 5;"
                + "record(1,1) = 21; record(19,1) = 3; record(20,0) = NONE");
        for (int i = 0; i < 45; i++) {
            run.calls("pump(" + (100 + i) + ") = " + (i == 0 ? 21 : 99 + i));
        }
        run.calls("state(11) = 20");
        for (int i = 0; i < 20; i++) {
            run.calls("record(" + i + ",0) = 5; record(" + i + ",1) = " + (144 - i) + "; record(" + i + ",2) = 0");
        }
        run.calls("record(20,0) = NONE");
    }

    private void whatSavesAState() {
        Sentence said = says("Every successful call of load(), resize(), dig(), settle(), setBallast(), lubricate(), blast(),"
                + " pump(), setStiffness(), setWeight(), addBoulder(), addLayer() and carryOut() saves the state that preceded it:"
                + " everything but the text and the plan.");
        for (String call : RECORDED) {
            said.run(call).calls(BEFORE + call + "; undo() = 4; state(3) = 3; state(11) = 2; record(0,1) = 6; bottom(6) = 2");
        }
        for (String call : SAVED_ONLY) {
            said.run(call).calls(BEFORE + call + "; undo() = 4; state(3) = 3; state(11) = 2; record(0,1) = 6; bottom(6) = 2");
        }
        // Also where nothing is other than before.
        said.holds("setWeight(600) = 600; undo() = 0; setStiffness(400) = 400; undo() = 0; load() = 0; undo() = 0;"
                + "resize(5,4) = 6; undo() = 0; undo() = ILLEGAL_STATE");
        // A plan that is carried out saves one state, whatever the count is.
        said.holds("setWeight(1) = 600; makePlan(1,1) = 12; carryOut(12) = 0; bottom(6) = 12; undo() = 1; bottom(6) = 0;"
                + "undo() = 0");
    }

    private void whatSavesNone() {
        Sentence said = says("Every successful call of load(), resize(), dig(), settle(), setBallast(), lubricate(), blast(),"
                + " pump(), setStiffness(), setWeight(), addBoulder(), addLayer() and carryOut() saves the state that preceded it:"
                + " everything but the text and the plan.");
        said.run("questions").calls("makePlan(1,1) = 1; bestWell(1) = 7; wouldSettle(1,0) = 1; appendCharacter(32) = 1;"
                + "clearText() = 1; plan(0,0) = 7; undo() = ILLEGAL_STATE");
        // An undoing is no state that could be undone.
        said.run("undo").calls("setWeight(1) = 600; setWeight(2) = 1; undo() = 1; undo() = 0; undo() = ILLEGAL_STATE;"
                + "state(2) = 600");
    }

    private static String weights(int first, int last) {
        StringBuilder calls = new StringBuilder();
        for (int weight = first; weight <= last; weight++) {
            calls.append("setWeight(").append(weight).append(") = ").append(weight == 1 ? 600 : weight - 1).append(';');
        }
        return calls.toString();
    }

    private void sixStates() {
        Sentence said = says("At most 6 states are saved; when a seventh is saved, the oldest one is discarded.");
        for (int saved = 0; saved <= 6; saved++) {
            Run run = said.run(saved + " states").calls(weights(1, saved));
            for (int left = saved - 1; left >= 0; left--) {
                run.calls("undo() = " + left + "; state(2) = " + (left == 0 ? 600 : left));
            }
            run.calls("undo() = ILLEGAL_STATE; state(2) = 600");
        }
    }

    private void seventhState() {
        Sentence said = says("At most 6 states are saved; when a seventh is saved, the oldest one is discarded.");
        for (int saved = 7; saved <= 20; saved++) {
            Run run = said.run(saved + " states").calls(weights(1, saved));
            for (int left = 5; left >= 0; left--) {
                run.calls("undo() = " + left + "; state(2) = " + (saved - 6 + left));
            }
            run.calls("undo() = ILLEGAL_STATE; state(2) = " + (saved - 6));
        }
        // Up and down across the limit.
        said.run("up and down").calls(weights(1, 8) + "undo() = 5; undo() = 4; state(2) = 6; setWeight(70) = 6; setWeight(71) = 70;"
                + "setWeight(72) = 71; undo() = 5; state(2) = 71; undo() = 4; state(2) = 70; undo() = 3; state(2) = 6; undo() = 2;"
                + "state(2) = 5; undo() = 1; state(2) = 4; undo() = 0; state(2) = 3; undo() = ILLEGAL_STATE");
    }

    /** The seventh state is the one that is discarded by every kind of call. */
    private void everySave() {
        Sentence said = says("At most 6 states are saved; when a seventh is saved, the oldest one is discarded.");
        for (String call : RECORDED) {
            said.run(call).calls(BEFORE + "setWeight(600) = 600;" + call + "; undo() = 5; undo() = 4;" + "setWeight(1) = 600;"
                    + "setWeight(600) = 1;" + call + "; undo() = 5; undo() = 4; state(2) = 1; undo() = 3; state(2) = 600;"
                    + "undo() = 2; undo() = 1; undo() = 0; state(7) = 0; state(8) = 1; undo() = ILLEGAL_STATE");
        }
    }

    private void allButTextAndPlan() {
        Sentence said = says("saves the state that preceded it: everything but the text and the plan.");
        said.run("text").calls("setWeight(1) = 600").type("stiff 3;").calls("undo() = 0; load() = 1; state(10) = 3; undo() = 0;"
                + "clearText() = 0");
        said.run("text of a load").type("stiff 3;").calls("load() = 1; undo() = 0; state(10) = 400; clearText() = 0");
        said.run("plan").calls("setWeight(1) = 600; makePlan(1,4) = 12; undo() = 0; plan(0,0) = 6; plan(11,0) = 11;"
                + "plan(12,0) = NONE");
        said.run("the amount of the plan").calls("setWeight(1) = 600; makePlan(1,1) = 12; dig(13,1) = 1; makePlan(1,4) = 12;"
                + "undo() = 1; carryOut(1) = 0; bottom(6) = 4; bottom(13) = 0");
    }

    private void undoOfEveryCall() {
        Sentence said = says("undo() restores the most recently saved state and discards it.");
        String state = "state(0) = 5; state(1) = 4; state(2) = 600; state(3) = 3; state(4) = 10; state(5) = 10; state(6) = 5;"
                + "state(7) = 1; state(8) = 1; state(9) = 100; state(10) = 400; state(11) = 5; boulder(0,0) = 6; boulder(0,2) = 9;"
                + "bottom(6) = 2; bottom(7) = 0; ground(99,0) = 0; ground(100,0) = 60; record(0,0) = 3; record(4,0) = 1;"
                + "lubricate(1,1) = ILLEGAL_STATE; lubricate(3,0) = ILLEGAL_STATE; setBallast(8,5) = ILLEGAL_STATE;"
                + "pump(100) = ILLEGAL_STATE;";
        String before = "addLayer(100,0,0) = 1; addBoulder(6,2,9) = 0; settle(3) = 3; dig(6,9) = 2; makePlan(4,1) = 1;"
                + "pump(100) = 400; setBallast(8,5) = 0; lubricate(1,1) = 1;" + state;
        for (String call : new String[] {"load() = 0", "resize(7,7) = 25", "dig(7,3) = 3", "settle(50) = 50", "setBallast(8,0) = 5",
            "lubricate(1,0) = 0", "blast(6,4) = 5", "blast(6,9) = 0", "pump(0) = 100", "setStiffness(0) = 400", "setWeight(1) = 600",
            "addBoulder(0,1,1) = 0", "addLayer(1,1,1) = 2", "carryOut(1) = 23"}) {
            said.run(call).calls(before + call + "; undo() = 5;" + state + "undo() = 4; lubricate(1,0) = ILLEGAL_STATE");
        }
    }

    private void undoOfRecords() {
        Sentence said = says("undo() restores the most recently saved state and discards it.");
        Run run = said.run("a record that had been pushed out");
        for (int i = 1; i <= 20; i++) {
            run.calls("pump(" + i + ") = " + (i == 1 ? 400 : i - 1));
        }
        run.calls("record(19,1) = 1; dig(6,1) = 1; record(19,1) = 2; undo() = 5; record(19,1) = 1; record(0,1) = 20;"
                + "state(11) = 20; undo() = 4; state(11) = 19; record(19,1) = NONE; record(18,1) = 1; record(0,1) = 19");
    }

    private void planIsKept() {
        Sentence said = says("It is kept until the next successful call of makePlan().");
        String plan = "setWeight(1) = 600; makePlan(1,4) = 12;";
        String kept = "plan(0,0) = 6; plan(3,0) = 7; plan(11,0) = 11; plan(11,1) = 0; plan(11,2) = 0; plan(12,0) = NONE;";
        for (String call : new String[] {"load() = 0", "resize(3,3) = 1", "undo() = 0", "carryOut(12) = 0", "setWeight(9999) = 1",
            "makePlan(0,1) = INVALID_ARGUMENT", "makePlan(1,11) = INVALID_ARGUMENT", "bestWell(1) = 6", "dig(6,1) = 1"}) {
            said.run(call).calls(plan + call + ";" + kept);
        }
        said.run("refused").calls(plan + "setWeight(600) = 1; settle(1) = 1; makePlan(1,1) = ILLEGAL_STATE;" + kept);
        // One that succeeds with no well takes its place.
        said.run("none").calls(plan + "resize(3,3) = 1; addBoulder(4,1,9) = 0; dig(4,1) = 1; makePlan(1,1) = 0; plan(0,0) = NONE;"
                + "carryOut(1) = INVALID_ARGUMENT");
        said.run("a shorter one").calls(plan + "addLayer(50,0,0) = 1; makePlan(1,1) = 1; plan(0,1) = 20; plan(1,0) = NONE;"
                + "carryOut(2) = INVALID_ARGUMENT; carryOut(1) = 20");
    }

    private void manyCalls() {
        Sentence said = says("An object is used for at most 512 calls after it has been made; what later calls answer is free.");
        Run run = said.run("512");
        for (int i = 1; i <= 510; i++) {
            run.calls("setWeight(" + i + ") = " + (i == 1 ? 600 : i - 1));
        }
        run.calls("undo() = 5; state(2) = 509");
        Run plans = said.run("dear calls").calls("resize(7,7) = 25");
        for (int i = 1; i <= 60; i++) {
            plans.calls("makePlan(200,1) = 12");
        }
    }

    private void objectsApart() {
        Sentence said = says("Creates a caisson of 5 columns and 4 rows at the surface, without layers, boulders and records,"
                + " with an empty text.");
        Run first = said.run("first");
        first.calls("resize(7,7) = 25; addLayer(9,0,0) = 1; setWeight(5) = 600; pump(3) = 400; settle(1) = 1; makePlan(9,1) = 12;"
                + "addBoulder(8,3,4) = 0; setStiffness(1) = 400; lubricate(0,1) = 1; setBallast(0,5) = 0; dig(8,1) = 1;").type("stiff 3;");
        said.run("second").calls("state(0) = 5; state(1) = 4; state(2) = 600; state(3) = 0; state(4) = 10; state(5) = 10;"
                + "state(6) = 0; state(7) = 0; state(8) = 0; state(9) = 400; state(10) = 400; state(11) = 0; bottom(6) = 0;"
                + "bottom(8) = 0; record(0,0) = NONE; plan(0,0) = NONE; undo() = ILLEGAL_STATE; boulder(0,0) = INVALID_ARGUMENT;"
                + "lubricate(0,0) = ILLEGAL_STATE; setBallast(0,0) = ILLEGAL_STATE; ground(0,0) = 60; clearText() = 0; load() = 0");
        first.calls("state(0) = 7; state(2) = 5; state(9) = 3; state(6) = 5; bottom(8) = 1; load() = 1; state(10) = 3");
    }
}
