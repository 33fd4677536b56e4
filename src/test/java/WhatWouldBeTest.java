/** Promises 28 to 34. */
public final class WhatWouldBeTest {
    /** A caisson of one well, whose bottom lies on a boulder. */
    private static final String NO_WELL_TO_DIG = "resize(3,3) = 1; addBoulder(4,1,5) = 0; dig(4,3) = 1;";

    private final Checks checks = new Checks("WhatWouldBeTest");

    public static void main(String[] args) {
        new WhatWouldBeTest().go();
    }

    private void go() {
        wouldSettle();
        bestWell();
        makePlan();
        plan();
        carryOut();
        highSide();
        undo();
        undoOfEveryCall();
        checks.finish();
    }

    private Run run(String name) {
        return new Run(checks, name);
    }

    private void wouldSettle() {
        run("promise 28").calls(Run.NO_RESISTANCE + "setBallast(5,99) = 0; setStiffness(390) = 400; wouldSettle(3,0) = 3;"
                + "wouldSettle(3,1) = 7; wouldSettle(3,2) = 7; wouldSettle(3,3) = 0; wouldSettle(4,3) = 0;"
                + "wouldSettle(5,3) = 1; wouldSettle(50,0) = 5; wouldSettle(50,1) = 5; wouldSettle(50,2) = 5;"
                + "wouldSettle(50,3) = 1; state(3) = 0; state(4) = 10; state(5) = 10; state(11) = 1; undo() = 4");
        run("promise 28: wrong").calls("wouldSettle(0,0) = INVALID_ARGUMENT; wouldSettle(51,0) = INVALID_ARGUMENT;"
                + "wouldSettle(1,-1) = INVALID_ARGUMENT; wouldSettle(1,4) = INVALID_ARGUMENT;"
                + "wouldSettle(LEAST,MOST) = INVALID_ARGUMENT");
        run("promise 28: holds").calls("setWeight(1) = 600; dig(6,10) = 10; wouldSettle(9,0) = 0; wouldSettle(9,1) = 10;"
                + "wouldSettle(9,2) = 10; wouldSettle(9,3) = 0; bottom(6) = 10");
        run("promise 28: bottoms stay").calls(Run.NO_RESISTANCE + "dig(6,6) = 6; wouldSettle(1,0) = 1; bottom(6) = 6;"
                + "settle(1) = 1; bottom(6) = 1");
        jamsBeforeTheHeaveOnly();
    }

    /**
     * Before the heave it jams, since nothing bears the east; the heave brings the support there
     * back, and the caisson would right itself.
     */
    private void jamsBeforeTheHeaveOnly() {
        run("promise 28: after the heave").calls("resize(5,3) = 3; addLayer(100,4,0) = 1; setBallast(9,99) = 0;"
                + "settle(50) = 5; state(4) = 15; setBallast(9,0) = 99; setStiffness(40) = 400; moment(0) = 128;"
                + "nextStep() = 1; dig(8,10) = 10; dig(8,10) = 7; bottom(8) = 17; moment(0) = -128; nextStep() = 2;"
                + "wouldSettle(1,0) = 0; wouldSettle(1,3) = 0; bottom(8) = 17; settle(1) = 0; bottom(8) = 5; nextStep() = 1");
    }

    private void bestWell() {
        run("promise 29: wrong").calls("bestWell(0) = INVALID_ARGUMENT; bestWell(11) = INVALID_ARGUMENT;"
                + "bestWell(LEAST) = INVALID_ARGUMENT; bestWell(MOST) = INVALID_ARGUMENT");
        run("promise 29: the smallest number").calls("addLayer(50,1,0) = 1; bestWell(1) = 6; bestWell(10) = 6;"
                + "bottom(6) = 0; state(3) = 0; state(11) = 0; undo() = 0");
        // By the well 6 it would sink but tilt; by 7 and by 12 it sinks upright.
        run("promise 29: upright").calls("setWeight(420) = 600; nextStep() = 0; bestWell(1) = 7; state(3) = 0;"
                + "setStiffness(500) = 400; bestWell(1) = 7; setStiffness(600) = 500; bestWell(1) = 6");
        // By the well 6 it would sink and tilt; by 7 it holds. The tilt counts more than the depth.
        run("promise 29: tilt before depth").calls("setWeight(390) = 600; bestWell(1) = 7; setStiffness(9999) = 400;"
                + "bestWell(1) = 6");
        // The well 8 can't be dug; by 9, 10 or 11 it holds, by 12 it sinks.
        run("promise 29: the greatest depth").calls("resize(7,3) = 5; addBoulder(8,1,5) = 0; dig(8,9) = 1;"
                + "setStiffness(9999) = 400; setWeight(350) = 600; surplus() = -220; bestWell(1) = 12; bestWell(2) = 9;"
                + "setWeight(390) = 350; surplus() = -60; bestWell(1) = 9");
        run("promise 29: none").calls(NO_WELL_TO_DIG + "bestWell(1) = NONE; bestWell(11) = INVALID_ARGUMENT");
        run("promise 29: all at the limit").calls("resize(3,3) = 1; setWeight(1) = 600; dig(4,10) = 10; bestWell(1) = 4;"
                + "dig(4,10) = 2; bestWell(1) = NONE");
        // 20 steps and no more: a target within them needs one well, one beyond them two.
        run("promise 29: 20 steps").calls(Run.NO_RESISTANCE + "makePlan(20,1) = 1; plan(0,1) = 20; makePlan(21,1) = 2;"
                + "plan(1,1) = 40; makePlan(200,10) = 10; plan(9,1) = 200");
    }

    private void makePlan() {
        run("promise 30: wrong").calls("makePlan(0,1) = INVALID_ARGUMENT; makePlan(201,1) = INVALID_ARGUMENT;"
                + "makePlan(1,0) = INVALID_ARGUMENT; makePlan(1,11) = INVALID_ARGUMENT;"
                + "makePlan(LEAST,MOST) = INVALID_ARGUMENT; plan(0,0) = NONE; settle(1) = 1;"
                + "makePlan(1,1) = ILLEGAL_STATE; makePlan(1,0) = INVALID_ARGUMENT; makePlan(2,1) = 12");
        run("promise 30: holds").calls("setWeight(1) = 600; makePlan(1,4) = 12; plan(0,0) = 6; plan(1,0) = 6;"
                + "plan(2,0) = 6; plan(3,0) = 7; plan(5,0) = 7; plan(6,0) = 8; plan(9,0) = 11; plan(11,0) = 11;"
                + "plan(11,1) = 0; plan(11,2) = 0; plan(12,0) = NONE; bottom(6) = 0; state(11) = 0; undo() = 0");
        run("promise 30: no best well").calls("makePlan(1,1) = 1;" + NO_WELL_TO_DIG + "makePlan(200,1) = 0;"
                + "plan(0,0) = NONE; carryOut(1) = INVALID_ARGUMENT");
        run("promise 30: no best well in the end").calls("resize(3,3) = 1; setWeight(1) = 600; makePlan(200,10) = 2;"
                + "plan(0,0) = 4; plan(1,0) = 4; plan(2,0) = NONE");
        run("promise 30: a failure keeps the plan").calls("addLayer(20,2,1) = 1; setWeight(300) = 600; makePlan(5,3) = 1;"
                + "makePlan(0,1) = INVALID_ARGUMENT; settle(5) = 5; makePlan(5,1) = ILLEGAL_STATE; plan(0,0) = 6;"
                + "carryOut(1) = 20; bottom(6) = 3");
    }

    private void plan() {
        run("promise 31").calls("plan(0,0) = NONE; plan(-1,0) = INVALID_ARGUMENT; plan(0,-1) = INVALID_ARGUMENT;"
                + "plan(0,3) = INVALID_ARGUMENT; plan(MOST,2) = NONE; plan(MOST,3) = INVALID_ARGUMENT;"
                + "plan(LEAST,0) = INVALID_ARGUMENT");
        // The ballast tilts it while it sinks, whatever is dug: |a| + |b| are 5 and 5 in the end.
        run("promise 31: tilts").calls(Run.NO_RESISTANCE + "setBallast(0,99) = 0; makePlan(3,2) = 1; plan(0,0) = 6;"
                + "plan(0,1) = 5; plan(0,2) = 10; makePlan(6,2) = 12; plan(1,1) = 5; plan(11,2) = 10; state(4) = 10");
    }

    private void carryOut() {
        run("promise 32: wrong").calls("carryOut(1) = INVALID_ARGUMENT; setWeight(1) = 600; makePlan(1,4) = 12;"
                + "carryOut(0) = INVALID_ARGUMENT; carryOut(13) = INVALID_ARGUMENT; carryOut(-1) = INVALID_ARGUMENT;"
                + "carryOut(MOST) = INVALID_ARGUMENT; bottom(6) = 0; carryOut(4) = 0; bottom(6) = 12; bottom(7) = 4;"
                + "bottom(8) = 0; state(11) = 0; undo() = 1; bottom(6) = 0; bottom(7) = 0; carryOut(12) = 0;"
                + "bottom(6) = 12; bottom(8) = 12; bottom(11) = 12; bottom(12) = 0");
        run("promise 32: no records, one state").calls("addLayer(100,2,0) = 1; addLayer(100,2,0) = 2; makePlan(70,3) = 4;"
                + "carryOut(3) = 60; state(3) = 60; state(11) = 0; record(0,0) = NONE; undo() = 2; state(3) = 0;"
                + "carryOut(4) = 80; carryOut(4) = 160; undo() = 3; state(3) = 80");
        // The cell 7 of the plan is the north-west of 3 x 3: passed by, but the caisson settles.
        run("promise 32: an edge cell is passed by").calls("makePlan(1,1) = 1; plan(0,0) = 7; resize(3,3) = 1;"
                + "addLayer(30,0,0) = 1; carryOut(1) = 20; bottom(4) = 0; state(3) = 20");
        run("promise 32: no cell is passed by").calls("resize(7,3) = 5; addBoulder(8,1,5) = 0; dig(8,9) = 1;"
                + "setStiffness(9999) = 400; setWeight(350) = 600; makePlan(1,1) = 1; plan(0,0) = 12; resize(3,3) = 1;"
                + "addLayer(30,0,0) = 1; carryOut(1) = 20; bottom(4) = 0");
        run("promise 32: a bottom that can't sink is passed by").calls("setWeight(420) = 600; makePlan(1,1) = 1;"
                + "plan(0,0) = 7; addBoulder(7,1,9) = 0; dig(7,1) = 1; addLayer(30,0,0) = 1; carryOut(1) = 20;"
                + "bottom(7) = 1");
        run("promise 32: where it holds, nothing heaves").calls("addLayer(50,1,0) = 1; makePlan(1,1) = 1; plan(0,0) = 6;"
                + "setWeight(1) = 600; dig(7,10) = 10; carryOut(1) = 0; bottom(6) = 1; bottom(7) = 10;"
                + "setWeight(600) = 1; carryOut(1) = 20; bottom(6) = 2");
        run("promise 32: a smaller digging than planned").calls("addLayer(50,1,0) = 1; setWeight(1) = 600;"
                + "makePlan(1,10) = 8; plan(6,0) = 11; plan(7,0) = 13; plan(7,1) = 2; addBoulder(6,4,1) = 0; carryOut(1) = 0; bottom(6) = 4");
    }

    private void highSide() {
        tilted("resize(5,4) = 6;", 5, 0, 1);
        tilted("resize(5,4) = 6;", 9, 1, 0);
        tilted("resize(4,5) = 6;", 2, 2, 3);
        tilted("resize(4,5) = 6;", 17, 3, 2);
        // Equal tilts of a square: the east is as high as the north, the west as the south.
        tilted("resize(4,4) = 4;", 0, 0, 1);
        tilted("resize(4,4) = 4;", 15, 3, 0);
        tilted("resize(4,4) = 4;", 3, 1, 0);
        tilted("resize(4,4) = 4;", 12, 0, 1);
        run("promise 33: none").calls("highSide() = NONE; settle(1) = 1; highSide() = NONE");
        // South 7 cells, west 3: the sum of the depths is smaller in the west, the mean in the south.
        run("promise 33: means").calls(Run.NO_RESISTANCE + "resize(7,3) = 5; settle(30) = 30; setBallast(17,99) = 0;"
                + "settle(2) = 2; state(4) = 10; state(5) = 12; edge(3,0) = 30; edge(17,0) = 34; highSide() = 2");
    }

    /** The ballast in the cell makes the side near it deep. */
    private void tilted(String size, int cell, int deep, int high) {
        run("promise 33: ballast in " + cell).calls(Run.NO_RESISTANCE + size + "settle(30) = 30; setBallast(" + cell
                + ",99) = 0; settle(2) = 2; highSide() = " + high + "; setBallast(" + cell + ",0) = 99;"
                + "lubricate(" + deep + ",1) = 1; highSide() = " + high);
    }

    private void undo() {
        run("promise 34: six states").calls("undo() = ILLEGAL_STATE; setWeight(1) = 600; setWeight(2) = 1;"
                + "setWeight(3) = 2; setWeight(4) = 3; setWeight(5) = 4; setWeight(6) = 5; setWeight(7) = 6;"
                + "setWeight(8) = 7; undo() = 5; state(2) = 7; undo() = 4; state(2) = 6; setWeight(9) = 6; undo() = 4;"
                + "state(2) = 6; undo() = 3; state(2) = 5; undo() = 2; undo() = 1; undo() = 0; state(2) = 2;"
                + "undo() = ILLEGAL_STATE; state(2) = 2; setWeight(3) = 2; undo() = 0");
        run("promise 34: text and plan stay").calls("setWeight(1) = 600; makePlan(1,2) = 12; dig(6,2) = 2;")
                .type("x").calls("undo() = 1; undo() = 0; plan(0,0) = 6; appendCharacter(32) = 2; clearText() = 2");
        run("promise 34: questions save nothing").calls("surplus() = 720; moment(0) = 0; nextStep() = 1; bestWell(1) = 7;"
                + "wouldSettle(5,0) = 1; makePlan(1,1) = 1; plan(0,0) = 7; stuckDepth() = 5; ballastNeeded() = 0;"
                + "highSide() = NONE; clearText() = 0; appendCharacter(59) = 1; load() = -10; undo() = ILLEGAL_STATE");
        run("promise 34: refused calls save nothing").calls("dig(6,0) = INVALID_ARGUMENT; settle(0) = INVALID_ARGUMENT;"
                + "setBallast(0,0) = ILLEGAL_STATE; lubricate(0,0) = ILLEGAL_STATE; blast(0,1) = ILLEGAL_STATE;"
                + "pump(400) = ILLEGAL_STATE; setWeight(0) = INVALID_ARGUMENT; setStiffness(-1) = INVALID_ARGUMENT;"
                + "addLayer(0,0,0) = INVALID_ARGUMENT; addBoulder(0,0,0) = INVALID_ARGUMENT;"
                + "resize(0,0) = INVALID_ARGUMENT; carryOut(1) = INVALID_ARGUMENT; undo() = ILLEGAL_STATE");
    }

    private void undoOfEveryCall() {
        undone("setWeight(5) = 600", "state(2) = 600");
        undone("setStiffness(5) = 400", "state(10) = 400");
        undone("addLayer(1,1,1) = 2", "state(8) = 1; ground(0,0) = 0; ground(99,0) = 0; ground(100,0) = 60");
        undone("addBoulder(0,1,1) = 0", "state(7) = 1; boulder(0,0) = 6; boulder(0,2) = 9");
        undone("blast(6,4) = 5", "boulder(0,2) = 9; state(11) = 2; record(0,0) = 0");
        undone("blast(6,9) = 0", "state(7) = 1; boulder(0,2) = 9; state(11) = 2");
        undone("dig(7,3) = 3", "bottom(7) = 0; bottom(6) = 2; state(11) = 2; record(0,1) = 6");
        undone("settle(4) = 4", "state(3) = 3; state(11) = 2; bottom(6) = 2");
        undone("setBallast(3,3) = 0", "state(6) = 0; state(11) = 2");
        undone("lubricate(3,1) = 1", "lubricate(3,0) = ILLEGAL_STATE; state(11) = 2");
        undone("pump(3) = 400", "state(9) = 400; state(11) = 2");
        undone("resize(7,7) = 25", "state(0) = 5; state(1) = 4; bottom(6) = 2; state(3) = 3; state(7) = 1");
        undone("load() = 0", "state(8) = 1; bottom(6) = 2; state(3) = 3; state(7) = 1; state(11) = 2");
        undone("makePlan(4,1) = 1; carryOut(1) = 23", "state(3) = 3; bottom(6) = 2; bottom(7) = 0");
    }

    private void undone(String call, String asBefore) {
        run("promise 34: undo of " + call).calls("addLayer(100,0,0) = 1; addBoulder(6,2,9) = 0; settle(3) = 3;"
                + "dig(6,9) = 2;" + call + "; undo() = 4;" + asBefore);
    }
}
