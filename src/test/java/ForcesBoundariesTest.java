/** Terms: the boundaries of the forces, of holding and jamming, of heave and of digging. */
public final class ForcesBoundariesTest {
    /** Strength 1 and 14 edge cells: at the surface they support 28. */
    private static final String WEAK = "addLayer(50,1,0) = 1;";

    private final Checks checks = new Checks("ForcesBoundariesTest");

    public static void main(String[] args) {
        new ForcesBoundariesTest().go();
    }

    private void go() {
        support();
        supportAtTheEdge();
        bouldersInTheSupport();
        skinForce();
        skinForceOfLubricatedSides();
        buoyancy();
        surplus();
        moments();
        holds();
        holdsAt200();
        stepsByStiffness();
        widestStiffness();
        momentsBeforeTheStep();
        settle();
        heave();
        heaveByStrength();
        heaveOfAllWells();
        heaveAfterJamming();
        digging();
        diggingToBoulders();
        deepestBottom();
        checks.finish();
    }

    private Sentence says(String words) {
        return new Sentence(checks, words);
    }

    private Sentence saysOfSupport() {
        return says("Its support is the strength at the depth e times the number m + 2, but at least 0 times"
                + " and at most 4 times, where m is e minus the bottom of the well beside it;"
                + " plus 4 times the hardness of each boulder in this cell that lies at a depth of at most e.");
    }

    private void support() {
        // c is 3; the bottom goes from 0 to 7, so m from 3 to -4.
        saysOfSupport().run("m").calls("addLayer(100,5,0) = 1; settle(3) = 3; edge(0,1) = 20; dig(6,1) = 1; edge(0,1) = 20;"
                + "dig(6,1) = 1; edge(0,1) = 15; dig(6,1) = 1; edge(0,1) = 10; dig(6,1) = 1; edge(0,1) = 5;"
                + "dig(6,1) = 1; edge(0,1) = 0; dig(6,1) = 1; edge(0,1) = 0; dig(6,1) = 1; edge(0,1) = 0;"
                + "edge(1,1) = 0; edge(5,1) = 0; edge(2,1) = 20; edge(10,1) = 20; edge(15,1) = 20");
        saysOfSupport().run("the strengths").calls("addLayer(100,0,0) = 1; edge(0,1) = 0; settle(3) = 3; edge(0,1) = 0");
        saysOfSupport().run("the strengths").calls("addLayer(100,50,0) = 1; setWeight(9999) = 600; edge(0,1) = 100;"
                + "settle(1) = 1; edge(0,1) = 150; settle(1) = 1; edge(0,1) = 200; settle(1) = 1; edge(0,1) = 200");
    }

    private void supportAtTheEdge() {
        // The strength counts at e, neither at e - 1 nor at the bottom.
        saysOfSupport().run("strength at e").calls("addLayer(3,1,0) = 1; addLayer(100,2,0) = 2; settle(2) = 2;"
                + "edge(0,1) = 4; settle(1) = 1; edge(0,1) = 8; dig(6,1) = 1; dig(6,1) = 1; edge(0,1) = 6;"
                + "dig(6,1) = 1; edge(0,1) = 4");
        // By the tilt the west lies at 3, the east at 0, while c is 1: e counts, not c.
        saysOfSupport().run("e of the cell").calls("addLayer(3,0,0) = 1; addLayer(100,7,0) = 2; setBallast(5,99) = 0;"
                + "settle(1) = 1; state(4) = 9; edge(0,0) = 3; edge(1,0) = 2; edge(4,0) = 0; edge(0,1) = 28; edge(1,1) = 0;"
                + "edge(4,1) = 0; dig(6,4) = 4; edge(0,1) = 7; dig(6,1) = 1; edge(0,1) = 0");
    }

    private void bouldersInTheSupport() {
        saysOfSupport().run("boulders").calls(Run.NO_RESISTANCE + "addBoulder(0,2,10) = 0; addBoulder(0,3,7) = 1;"
                + "addBoulder(6,1,50) = 2; addBoulder(1,1,1) = 2; edge(0,1) = 0; settle(1) = 1; edge(0,1) = 0;"
                + "edge(1,1) = 4; settle(1) = 1; edge(0,0) = 2; edge(0,1) = 40; settle(1) = 1; edge(0,1) = 68;"
                + "settle(1) = 1; edge(0,1) = 68; edge(5,1) = 0; blast(0,9) = 1; edge(0,1) = 32");
        // At the deepest place of a boulder.
        saysOfSupport().run("at 200").calls(Run.NO_RESISTANCE + "addBoulder(0,200,50) = 0; settle(50) = 50; settle(50) = 50;"
                + "settle(50) = 50; settle(49) = 49; edge(0,1) = 0; settle(1) = 1; edge(0,1) = 200");
        // At least 0 times: where the well is dug out, the boulder alone bears.
        saysOfSupport().run("dug out").calls("addLayer(100,5,0) = 1; addBoulder(0,1,3) = 0; settle(1) = 1; edge(0,1) = 27;"
                + "dig(6,9) = 9; edge(0,1) = 12");
    }

    private void skinForce() {
        Sentence said = says("Its skin force is the sum of the frictions at the depths 0 to e - 1, times 4, or times 1"
                + " if a side to which the cell belongs is lubricated.");
        said.holds("addLayer(2,0,1) = 1; addLayer(2,0,5) = 2; addLayer(90,0,0) = 3; edge(0,2) = 0; settle(1) = 1;"
                + "edge(0,2) = 4; settle(1) = 1; edge(0,2) = 8; settle(1) = 1; edge(0,2) = 28; settle(1) = 1; edge(0,2) = 48;"
                + "settle(1) = 1; edge(0,2) = 48");
        said.run("friction 9").calls("addLayer(5,0,9) = 1; settle(1) = 1; edge(0,2) = 36; settle(1) = 1; edge(0,2) = 72");
        // By its tilt the east is at 0 and the west at 3, while c is 1.
        said.run("e of the cell").calls("addLayer(9,0,1) = 1; setBallast(5,99) = 0; settle(1) = 1; edge(0,0) = 3;"
                + "edge(0,2) = 12; edge(3,0) = 0; edge(3,2) = 0; edge(4,0) = 0; edge(4,2) = 0; edge(2,2) = 4");
        said.run("below all layers").calls("addLayer(1,0,1) = 1; setWeight(9999) = 600; settle(2) = 2; edge(0,2) = 40;"
                + "settle(1) = 1; edge(0,2) = 76");
    }

    private void skinForceOfLubricatedSides() {
        Sentence said = says("Its skin force is the sum of the frictions at the depths 0 to e - 1, times 4, or times 1"
                + " if a side to which the cell belongs is lubricated.");
        // The corner 0 belongs to the sides 0 and 2; one of them is enough, and two are no more.
        said.run("a corner").calls("addLayer(9,0,2) = 1; settle(3) = 3; edge(0,2) = 24; lubricate(0,1) = 1; edge(0,2) = 6;"
                + "lubricate(2,1) = 2; edge(0,2) = 6; lubricate(0,0) = 1; edge(0,2) = 6; lubricate(2,0) = 0; edge(0,2) = 24;"
                + "lubricate(1,1) = 1; lubricate(3,1) = 2; edge(0,2) = 24; edge(4,2) = 6; edge(15,2) = 6; edge(19,2) = 6;"
                + "edge(5,2) = 24; edge(2,2) = 24; edge(9,2) = 6; edge(17,2) = 6");
        said.run("at the surface").calls("lubricate(0,1) = 1; edge(0,2) = 0; edge(4,2) = 0");
    }

    private void buoyancy() {
        Sentence said = says("Its buoyancy is e - w, but at least 0.");
        said.holds(Run.NO_RESISTANCE + "edge(0,3) = 0; pump(0) = 400; edge(0,3) = 0; settle(5) = 5; edge(0,3) = 5;"
                + "pump(4) = 0; edge(0,3) = 1; pump(5) = 4; edge(0,3) = 0; pump(6) = 5; edge(0,3) = 0; pump(400) = 6;"
                + "edge(0,3) = 0");
        said.run("e of the cell").calls(Run.NO_RESISTANCE + "setBallast(5,99) = 0; settle(1) = 1; pump(2) = 400;"
                + "edge(0,3) = 1; edge(1,3) = 0; edge(4,3) = 0; pump(0) = 2; edge(0,3) = 3; edge(1,3) = 2; edge(2,3) = 1;"
                + "edge(3,3) = 0; edge(4,3) = 0");
    }

    private void surplus() {
        says("The surplus is the load minus the resistances of all edge cells.")
                .holds(WEAK + "setWeight(7) = 600; surplus() = 0; setWeight(8) = 7; surplus() = 4; setWeight(6) = 8;"
                        + "surplus() = -4; setBallast(6,1) = 0; surplus() = 0; setBallast(0,1) = 0; surplus() = 4")
                .holds("setWeight(1) = 600; surplus() = -1676; setWeight(9999) = 1; surplus() = 38316");
        // The three forces of 14 cells at c = 3: support 4, skin 12, buoyancy 2.
        says("Its resistance is the sum of these three.").holds("addLayer(50,1,1) = 1; settle(3) = 3; pump(1) = 400;"
                + "surplus() = 2148; sideResistance(0) = 72");
        says("The load is 4 * (G + all ballast).").holds(Run.NO_RESISTANCE + "surplus() = 2400; setWeight(1) = 600;"
                + "surplus() = 4; setBallast(0,99) = 0; surplus() = 400; setBallast(6,99) = 0; surplus() = 796;"
                + "setBallast(0,0) = 99; surplus() = 400");
    }

    private void moments() {
        Sentence said = says("The moment of axis 0 is the sum of (2 * x - W + 1) * resistance over all edge cells, minus"
                + " the sum of (2 * x - W + 1) * 4 * ballast over all cells; that of axis 1 likewise with 2 * y - L + 1.");
        said.holds("moment(0) = 0; moment(1) = 0; moment(-1) = INVALID_ARGUMENT; moment(2) = INVALID_ARGUMENT");
        // Arms of axis 0: -4, -2, 0, 2, 4; of axis 1: -3, -1, 1, 3.
        said.holds("setBallast(0,1) = 0; moment(0) = 16; moment(1) = 12; setBallast(0,0) = 1; setBallast(6,1) = 0;"
                + "moment(0) = 8; moment(1) = 4; setBallast(6,0) = 1; setBallast(7,1) = 0; moment(0) = 0; moment(1) = 4;"
                + "setBallast(7,0) = 1; setBallast(13,1) = 0; moment(0) = -8; moment(1) = -4; setBallast(13,0) = 1;"
                + "setBallast(19,1) = 0; moment(0) = -16; moment(1) = -12");
        // Well 6 dug by 1 takes 1 of the support of the cells 0, 1 and 5 each.
        said.holds(WEAK + "dig(6,1) = 1; moment(0) = 10; moment(1) = 7; undo() = 1; dig(13,1) = 1; moment(0) = -10;"
                + "moment(1) = -7; undo() = 1; dig(7,1) = 1; moment(0) = 0; moment(1) = 3");
    }

    private void holds() {
        Sentence said = says("The caisson holds if the surplus is 0 or less, or if c is 200.");
        said.holds(WEAK + "setWeight(7) = 600; surplus() = 0; nextStep() = 0; wouldSettle(1,0) = 0");
        said.holds(WEAK + "setWeight(7) = 600; dig(7,1) = 1; surplus() = 1; nextStep() = 1; wouldSettle(1,0) = 1;"
                + "settle(1) = 1");
        said.holds(WEAK + "setWeight(6) = 600; dig(6,1) = 1; surplus() = -1; nextStep() = 0");
        said.noTrace(WEAK + "setWeight(7) = 600; dig(12,10) = 10; undo() = 2; surplus() = 0",
                "settle(1) = ILLEGAL_STATE", "settle(50) = ILLEGAL_STATE", "nextStep() = 0");
        said.noTrace(WEAK + "setWeight(6) = 600; dig(6,1) = 1; surplus() = -1", "settle(1) = ILLEGAL_STATE");
        // a is -5 and would go further, but without a surplus there is no step that could jam.
        said.holds(Run.NO_RESISTANCE + "setBallast(5,99) = 0; settle(50) = 5; nextStep() = 2; pump(0) = 400;"
                + "setWeight(1) = 600; surplus() = 310; nextStep() = 2; addBoulder(2,5,50) = 0; surplus() = 110; nextStep() = 2;"
                + "addBoulder(17,5,50) = 1; surplus() = -90; moment(0) = 1304; nextStep() = 0; wouldSettle(1,3) = 0;"
                + "settle(1) = ILLEGAL_STATE");
    }

    private void holdsAt200() {
        Sentence said = says("The caisson holds if the surplus is 0 or less, or if c is 200.");
        String to195 = Run.NO_RESISTANCE + "settle(50) = 50; settle(50) = 50; settle(50) = 50; settle(45) = 45;";
        said.run("c").calls(to195 + "settle(4) = 4; state(3) = 199; surplus() = 2400; nextStep() = 1; settle(1) = 1;"
                + "state(3) = 200; surplus() = 2400; nextStep() = 0");
        said.run("it would jam").calls(to195 + "setBallast(5,99) = 0; settle(50) = 5; state(3) = 200; state(4) = 5;"
                + "moment(0) = 1584; nextStep() = 0; wouldSettle(1,3) = 0; undo() = 5; settle(4) = 4; state(4) = 6;"
                + "nextStep() = 1; wouldSettle(50,3) = 0");
        said.run("nothing heaves").calls(to195 + "settle(5) = 5; dig(6,10) = 10; settle(1) = ILLEGAL_STATE; bottom(6) = 10");
    }

    private void stepsByStiffness() {
        Sentence said = says("if the moment of axis 0 is greater than the stiffness, a decreases by 1; if it is less than"
                + " the negative stiffness, a increases by 1; likewise b with axis 1.");
        int[] cells = {6, 8, 7, 12};
        int[] moments = {80, -80, 40, -40};
        int[] tilts = {9, 11, 9, 11};
        for (int i = 0; i < 4; i++) {
            int axis = i / 2;
            int stiffness = Math.abs(moments[i]);
            said.run("cell " + cells[i]).calls(Run.NO_RESISTANCE + "setBallast(" + cells[i] + ",10) = 0;"
                    + "setStiffness(" + (stiffness + 1) + ") = 400; moment(" + axis + ") = " + moments[i] + "; settle(1) = 1;"
                    + "state(" + (4 + axis) + ") = 10; setStiffness(" + stiffness + ") = " + (stiffness + 1)
                    + "; settle(1) = 1; state(" + (4 + axis) + ") = 10; setStiffness(" + (stiffness - 1) + ") = " + stiffness
                    + "; settle(1) = 1; state(" + (4 + axis) + ") = " + tilts[i] + "; state(" + (5 - axis) + ") = 10;"
                    + "state(3) = 3; settle(1) = 1; state(" + (4 + axis) + ") = " + (2 * tilts[i] - 10));
        }
        said.run("stiffness 0").calls(Run.NO_RESISTANCE + "setStiffness(0) = 400; settle(1) = 1; state(4) = 10; state(5) = 10;"
                + "setBallast(7,1) = 0; moment(0) = 0; moment(1) = 4; settle(1) = 1; state(4) = 10; state(5) = 9");
        said.run("both").calls(Run.NO_RESISTANCE + "setStiffness(0) = 400; setBallast(15,1) = 0; settle(2) = 2; state(4) = 8;"
                + "state(5) = 12; setBallast(15,0) = 1; setBallast(4,1) = 0; settle(3) = 3; state(4) = 11; state(5) = 9");
    }

    /** 7 x 7: the arms of axis 0 are -6, -4, -2, 0, 2, 4 and 6. */
    private void widestStiffness() {
        Sentence said = says("if the moment of axis 0 is greater than the stiffness, a decreases by 1; if it is less than"
                + " the negative stiffness, a increases by 1; likewise b with axis 1.");
        said.run("stiffness 9999").calls(Run.NO_RESISTANCE + "resize(7,7) = 25; setStiffness(9999) = 400;"
                + "setBallast(0,99) = 0; setBallast(7,99) = 0; setBallast(35,99) = 0; setBallast(42,99) = 0;"
                + "setBallast(21,20) = 0; setBallast(23,1) = 0; moment(0) = 9992; moment(1) = 0; settle(1) = 1; state(4) = 10;"
                + "setBallast(23,2) = 1; moment(0) = 10000; settle(1) = 1; state(4) = 9; state(5) = 10");
    }

    private void momentsBeforeTheStep() {
        Sentence said = says("If it does not hold, a step of sinking consists of the following, by the moments before the step:");
        // With the step, the corner 0 comes upon its boulder by the tilt of a; only the next step tilts b.
        said.holds(Run.NO_RESISTANCE + "settle(9) = 9; addBoulder(0,10,50) = 0; setBallast(5,50) = 0; setBallast(10,50) = 0;"
                + "moment(0) = 1600; moment(1) = 0; settle(1) = 1; state(4) = 9; state(5) = 10; edge(0,0) = 12;"
                + "moment(0) = 800; moment(1) = -600; settle(1) = 1; state(4) = 8; state(5) = 11");
        says("Otherwise c increases by 1.").holds(Run.NO_RESISTANCE + "settle(1) = 1; state(3) = 1; settle(1) = 1; state(3) = 2");
    }

    private void settle() {
        Sentence said = says("To settle with a number of steps means: steps of sinking are made as long as the caisson does"
                + " not hold, does not jam, and the number of steps is not reached.");
        said.run("the number is reached").calls(Run.NO_RESISTANCE + "settle(1) = 1; state(3) = 1; settle(49) = 49;"
                + "state(3) = 50; settle(50) = 50; state(3) = 100");
        said.run("it holds").calls("addLayer(7,0,0) = 1; settle(6) = 6; nextStep() = 1; undo() = 1; settle(7) = 7;"
                + "nextStep() = 0; undo() = 1; settle(8) = 7; state(3) = 7; nextStep() = 0");
        said.run("it jams").calls(Run.NO_RESISTANCE + "setBallast(5,99) = 0; settle(5) = 5; nextStep() = 2; undo() = 4;"
                + "settle(6) = 5; state(3) = 5; settle(1) = 0; state(3) = 5");
        says("Returns the number of steps that were made; INVALID_ARGUMENT if steps is out of range;"
                + " ILLEGAL_STATE if the caisson holds.").holds(Run.NO_RESISTANCE + "setBallast(5,99) = 0; settle(50) = 5;"
                + "settle(50) = 0; record(0,0) = 1; record(0,2) = 5; record(1,0) = 1; record(1,2) = 5; undo() = 5");
    }

    private Sentence saysOfHeave() {
        return says("After that the bottoms heave: each well whose bottom is more than 4 + s / 5 (rounded down) below c,"
                + " where s is the strength at the depth of the bottom, gets the bottom c.");
    }

    private void heave() {
        // After 2 steps, at strength 0: 6 is 4 below c and stays, 7 is 5 below and heaves.
        saysOfHeave().run("strength 0").calls(Run.NO_RESISTANCE + "dig(6,6) = 6; dig(7,7) = 7; dig(8,1) = 1; settle(2) = 2;"
                + "bottom(6) = 6; bottom(7) = 2; bottom(8) = 1; bottom(11) = 0; settle(1) = 1; bottom(6) = 6; bottom(7) = 2");
        // The heave comes after the last step, not after each: 9 would heave at c = 1.
        saysOfHeave().run("at the end").calls(Run.NO_RESISTANCE + "dig(6,9) = 9; settle(5) = 5; bottom(6) = 9");
        // c counts, not the depth of the edge beside the well: that is 1 + 2 in the west.
        saysOfHeave().run("below c").calls(Run.NO_RESISTANCE + "setBallast(5,99) = 0; dig(6,6) = 6; dig(8,5) = 5; settle(1) = 1;"
                + "edge(5,0) = 3; edge(9,0) = 0; bottom(6) = 1; bottom(8) = 5");
        saysOfHeave().run("c = 0").calls("addLayer(50,3,0) = 1; dig(6,10) = 10; setWeight(1) = 600; settle(1) = ILLEGAL_STATE;"
                + "bottom(6) = 10");
    }

    /** After one step a bottom is at most 11 below c. */
    private void heaveByStrength() {
        int[][] rows = {{0, 4}, {1, 4}, {4, 4}, {5, 5}, {9, 5}, {10, 6}, {14, 6}, {15, 7}, {29, 9}, {30, 10}, {34, 10}};
        for (int[] row : rows) {
            int stays = row[1] + 1;
            Run run = saysOfHeave().run("strength " + row[0]).calls("setWeight(9999) = 600; addLayer(50," + row[0] + ",0) = 1;");
            digTo(run, 6, stays);
            digTo(run, 7, stays + 1);
            run.calls("settle(1) = 1; bottom(6) = " + stays + "; bottom(7) = 1");
        }
        for (int strength : new int[] {35, 50}) {
            Run run = saysOfHeave().run("strength " + strength).calls("setWeight(9999) = 600; addLayer(50," + strength + ",0) = 1;");
            digTo(run, 6, 12);
            run.calls("settle(1) = 1; bottom(6) = 12");
        }
        // The strength at the bottom, neither that above nor that at c: the second layer begins at 6.
        saysOfHeave().run("a weak layer above").calls("addLayer(6,0,0) = 1; addLayer(50,10,0) = 2; dig(6,6) = 6; dig(7,7) = 7;"
                + "dig(8,8) = 8; settle(1) = 1; bottom(6) = 6; bottom(7) = 7; bottom(8) = 1");
        saysOfHeave().run("a weak layer below").calls("addLayer(6,10,0) = 1; addLayer(50,0,0) = 2; dig(6,5) = 5; dig(7,6) = 6;"
                + "settle(1) = 1; bottom(6) = 5; bottom(7) = 1");
        saysOfHeave().run("below all layers").calls("addLayer(6,0,0) = 1; dig(6,5) = 5; dig(7,6) = 6; dig(8,10) = 10;"
                + "dig(8,2) = 2; settle(1) = 1; bottom(6) = 5; bottom(7) = 6; bottom(8) = 12");
    }

    private static void digTo(Run run, int cell, int depth) {
        int first = Math.min(depth, 10);
        run.calls("dig(" + cell + "," + first + ") = " + first);
        if (depth > 10) {
            run.calls("dig(" + cell + "," + (depth - 10) + ") = " + (depth - 10));
        }
    }

    private void heaveOfAllWells() {
        for (int[] size : new int[][] {{3, 3}, {7, 7}, {3, 7}, {7, 3}}) {
            int w = size[0];
            int l = size[1];
            Run run = saysOfHeave().run(w + " x " + l).calls(Run.NO_RESISTANCE
                    + "resize(" + w + "," + l + ") = " + (w - 2) * (l - 2));
            for (int cell = 0; cell < w * l; cell++) {
                if (cell % w > 0 && cell % w < w - 1 && cell / w > 0 && cell / w < l - 1) {
                    run.calls("dig(" + cell + ",6) = 6");
                }
            }
            run.calls("settle(1) = 1");
            for (int cell = 0; cell < w * l; cell++) {
                if (cell % w > 0 && cell % w < w - 1 && cell / w > 0 && cell / w < l - 1) {
                    run.calls("bottom(" + cell + ") = 1");
                }
            }
        }
    }

    /** Only where it jams at once, a bottom can be 12 below c at the heave: strength 40 allows that, 39 does not. */
    private void heaveAfterJamming() {
        String jammed = "setWeight(9999) = 600; addLayer(16,0,0) = 1; setBallast(5,99) = 0;";
        saysOfHeave().run("12 at 39").calls(jammed + "addLayer(50,39,0) = 2; settle(50) = 5; state(3) = 5; nextStep() = 2;"
                + "dig(6,10) = 10; dig(6,6) = 6; dig(7,10) = 10; dig(7,10) = 7; settle(1) = 0; bottom(6) = 16; bottom(7) = 5");
        saysOfHeave().run("12 at 40").calls(jammed + "addLayer(50,40,0) = 2; settle(50) = 5; state(3) = 5; nextStep() = 2;"
                + "dig(7,10) = 10; dig(7,10) = 7; settle(1) = 0; bottom(7) = 17");
    }

    private Sentence saysOfDigging() {
        return says("To dig in a well by an amount means that its bottom sinks by the amount, but not below c + 12, nor"
                + " below 220, nor below the depth of the first boulder in this well that lies at the depth of the present"
                + " bottom or deeper.");
    }

    private void digging() {
        saysOfDigging().run("c + 12 at 0").calls("dig(6,10) = 10; dig(6,1) = 1; bottom(6) = 11; dig(6,1) = 1; bottom(6) = 12;"
                + "dig(6,1) = ILLEGAL_STATE; dig(7,10) = 10; dig(7,10) = 2; bottom(7) = 12; dig(7,10) = ILLEGAL_STATE;"
                + "dig(8,10) = 10; dig(8,2) = 2; dig(11,10) = 10; dig(11,3) = 2");
        saysOfDigging().run("c + 12 at 3").calls("addLayer(90,50,0) = 1; setWeight(9999) = 600; settle(3) = 3; dig(6,10) = 10;"
                + "dig(6,10) = 5; bottom(6) = 15; dig(6,1) = ILLEGAL_STATE; settle(1) = 1; dig(6,10) = 1; bottom(6) = 16");
        // Where c has come below the bottom, there is more room than the amount.
        saysOfDigging().run("above c").calls(Run.NO_RESISTANCE + "settle(30) = 30; dig(6,10) = 10; dig(6,10) = 10; dig(6,10) = 10;"
                + "bottom(6) = 30; dig(6,10) = 10; dig(6,10) = 2; bottom(6) = 42");
        says("(A bottom that is at or below such a limit stays.)").noTrace("dig(6,10) = 10; dig(6,2) = 2; addBoulder(7,1,9) = 0;"
                + "dig(7,1) = 1", "dig(6,1) = ILLEGAL_STATE", "dig(6,10) = ILLEGAL_STATE", "dig(7,1) = ILLEGAL_STATE",
                "dig(7,10) = ILLEGAL_STATE", "dig(6,11) = INVALID_ARGUMENT", "dig(7,0) = INVALID_ARGUMENT");
        says("(A bottom that is at or below such a limit stays.)").holds("setWeight(1) = 600; makePlan(9,10) = 12; plan(0,0) = 6;"
                + "plan(1,0) = 6; plan(2,0) = 7; dig(6,10) = 10; dig(6,10) = 2; carryOut(2) = 0; bottom(6) = 12; bottom(7) = 0");
        says("(A bottom that is at or below such a limit stays.)").holds("resize(3,3) = 1; dig(4,10) = 10; bestWell(1) = 4;"
                + "dig(4,2) = 2; bestWell(1) = NONE; makePlan(9,1) = 0");
    }

    private void diggingToBoulders() {
        saysOfDigging().run("boulders").calls("addBoulder(6,5,9) = 0; dig(6,4) = 4; dig(6,10) = 1; bottom(6) = 5;"
                + "dig(6,1) = ILLEGAL_STATE; blast(6,9) = 0; dig(6,1) = 1; bottom(6) = 6");
        saysOfDigging().run("reached by the amount").calls("addBoulder(6,5,9) = 0; dig(6,5) = 5; bottom(6) = 5;"
                + "dig(6,1) = ILLEGAL_STATE");
        // One at the bottom stops it; one just above doesn't, nor one in another well or under the edge.
        saysOfDigging().run("at the present bottom").calls("dig(6,5) = 5; addBoulder(6,4,9) = 0; addBoulder(7,6,9) = 1;"
                + "addBoulder(5,6,9) = 0; addBoulder(1,6,9) = 0; dig(6,1) = 1; addBoulder(6,6,9) = 3; dig(6,1) = ILLEGAL_STATE;"
                + "undo() = 5; addBoulder(6,7,9) = 3; dig(6,3) = 1; bottom(6) = 7");
        saysOfDigging().run("the first one").calls("addBoulder(6,8,9) = 0; addBoulder(6,3,9) = 0; addBoulder(6,6,9) = 1;"
                + "dig(6,10) = 3; blast(6,9) = 0; dig(6,10) = 3; bottom(6) = 6; blast(6,9) = 0; dig(6,10) = 2; bottom(6) = 8");
        // A boulder below c + 12 is no help: the limit is the nearest one.
        saysOfDigging().run("both limits").calls("addBoulder(6,13,9) = 0; addBoulder(7,12,9) = 1; addBoulder(8,11,9) = 2;"
                + "dig(6,10) = 10; dig(6,10) = 2; bottom(6) = 12; dig(7,10) = 10; dig(7,10) = 2; dig(8,10) = 10; dig(8,10) = 1;"
                + "bottom(8) = 11");
    }

    /** c is at most 200, so that the limit of 220 is never reached: 212 is the deepest bottom. */
    private void deepestBottom() {
        Run run = saysOfDigging().run("c = 200").calls(Run.NO_RESISTANCE
                + "settle(50) = 50; settle(50) = 50; settle(50) = 50; settle(50) = 50;");
        for (int i = 1; i <= 21; i++) {
            run.calls("dig(6,10) = 10; bottom(6) = " + 10 * i);
        }
        run.calls("dig(6,10) = 2; bottom(6) = 212; dig(6,10) = ILLEGAL_STATE; dig(6,1) = ILLEGAL_STATE");
    }
}
