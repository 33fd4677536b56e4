/** Promises 5 to 34: the ranges of the arguments, the error codes in their order, and each boundary that is told there. */
public final class PromiseBoundariesTest {
    private final Checks checks = new Checks("PromiseBoundariesTest");

    public static void main(String[] args) {
        new PromiseBoundariesTest().go();
    }

    private void go() {
        resize();
        weightAndStiffness();
        layersAndBoulders();
        ground();
        boulder();
        state();
        edge();
        bottomAndMoment();
        nextStep();
        sideResistance();
        stuckDepth();
        stuckDepthWithoutSupport();
        ballastNeeded();
        dig();
        settle();
        ballastAndLubrication();
        blastUnderTheEdge();
        blastInAWell();
        charge();
        pump();
        record();
        wouldSettle();
        bestWell();
        bestOfSeveral();
        makePlan();
        endOfThePlan();
        plan();
        carryOut();
        passedBy();
        highSide();
        meanDepths();
        undo();
        firstErrorCode();
        checks.finish();
    }

    private Sentence says(String words) {
        return new Sentence(checks, words);
    }

    private void resize() {
        Sentence said = says("Returns the number of wells; INVALID_ARGUMENT if an argument is out of range.");
        said.holds("resize(3,3) = 1; resize(3,4) = 2; resize(4,3) = 2; resize(6,7) = 20; resize(7,6) = 20; resize(7,7) = 25");
        said.noTrace("dig(6,1) = 1; resize(4,6) = 8; setBallast(7,5) = 0", "resize(2,4) = INVALID_ARGUMENT",
                "resize(8,4) = INVALID_ARGUMENT", "resize(4,2) = INVALID_ARGUMENT", "resize(4,8) = INVALID_ARGUMENT",
                "resize(MOST,4) = INVALID_ARGUMENT", "resize(4,LEAST) = INVALID_ARGUMENT");
        says("Replaces the caisson by one at the surface, without ballast, lubrication and boulders, with all bottoms at 0.")
                .holds(Run.NO_RESISTANCE + "setBallast(5,99) = 0; setBallast(19,9) = 0; lubricate(0,1) = 1; lubricate(3,1) = 2;"
                        + "addBoulder(0,1,1) = 0; addBoulder(19,9,9) = 1; dig(6,9) = 9; dig(13,9) = 9; settle(5) = 5; state(4) = 5;"
                        + "resize(5,4) = 6; state(3) = 0; state(4) = 10; state(5) = 10; state(6) = 0; state(7) = 0; bottom(6) = 0;"
                        + "bottom(13) = 0; edge(0,0) = 0; lubricate(0,0) = ILLEGAL_STATE; lubricate(3,0) = ILLEGAL_STATE;"
                        + "setBallast(5,0) = ILLEGAL_STATE; setBallast(19,0) = ILLEGAL_STATE; addBoulder(0,1,1) = 0");
        // What lay in the cells of a larger caisson doesn't come back with a still larger one.
        says("Replaces the caisson by one at the surface, without ballast, lubrication and boulders, with all bottoms at 0.")
                .holds("resize(7,7) = 25; setBallast(0,9) = 0; setBallast(48,9) = 0; dig(40,9) = 9; resize(3,3) = 1; resize(7,7) = 25;"
                        + "state(6) = 0; setBallast(0,0) = ILLEGAL_STATE; setBallast(48,0) = ILLEGAL_STATE; bottom(40) = 0")
                .holds(Run.NO_RESISTANCE + "setBallast(2,99) = 0; settle(5) = 5; state(5) = 5; resize(5,4) = 6; state(5) = 10;"
                        + "setBallast(17,99) = 0; settle(5) = 5; state(5) = 15; resize(5,4) = 6; state(5) = 10");
        says("Weight, stiffness, layers, groundwater and records stay.").holds("setWeight(700) = 600; setStiffness(3) = 400;"
                + "addLayer(9,8,7) = 1; pump(6) = 400; dig(6,1) = 1; resize(3,7) = 5; state(2) = 700; state(10) = 3; state(8) = 1;"
                + "ground(8,0) = 8; state(9) = 6; state(11) = 2; record(0,1) = 6; record(1,1) = 6; record(2,0) = NONE");
    }

    private void weightAndStiffness() {
        Sentence weight = says("Returns the previous weight; INVALID_ARGUMENT if weight is out of range.");
        weight.holds("setWeight(2) = 600; setWeight(2) = 2; setWeight(1) = 2; setWeight(9998) = 1; setWeight(9999) = 9998;"
                + "setWeight(10000) = INVALID_ARGUMENT; setWeight(0) = INVALID_ARGUMENT; setWeight(600) = 9999");
        Sentence stiffness = says("Returns the previous stiffness; INVALID_ARGUMENT if stiffness is out of range.");
        stiffness.holds("setStiffness(1) = 400; setStiffness(1) = 1; setStiffness(0) = 1; setStiffness(9998) = 0;"
                + "setStiffness(9999) = 9998; setStiffness(10000) = INVALID_ARGUMENT; setStiffness(-1) = INVALID_ARGUMENT;"
                + "setStiffness(400) = 9999");
    }

    private void layersAndBoulders() {
        says("Returns the number of layers then; INVALID_ARGUMENT if an argument is out of range; CAPACITY_EXCEEDED if there are 8"
                + " layers.").holds("addLayer(1,1,1) = 1; addLayer(1,1,1) = 2; addLayer(1,1,1) = 3; addLayer(1,1,1) = 4;"
                + "addLayer(1,1,1) = 5; addLayer(1,1,1) = 6; addLayer(1,1,1) = 7; addLayer(1,1,10) = INVALID_ARGUMENT;"
                + "addLayer(1,1,1) = 8; addLayer(1,1,1) = CAPACITY_EXCEEDED; addLayer(1,1,10) = INVALID_ARGUMENT;"
                + "addLayer(101,1,1) = INVALID_ARGUMENT; addLayer(1,-1,1) = INVALID_ARGUMENT");
        says("Returns the number of the boulder; INVALID_ARGUMENT if an argument is out of range; ILLEGAL_STATE if there is one in"
                + " this cell at this depth; CAPACITY_EXCEEDED if there are 10.").holds("addBoulder(6,10,1) = 0;"
                + "addBoulder(6,9,1) = 0; addBoulder(6,8,1) = 0; addBoulder(6,7,1) = 0; addBoulder(6,6,1) = 0; addBoulder(6,5,1) = 0;"
                + "addBoulder(6,4,1) = 0; addBoulder(6,3,1) = 0; addBoulder(6,2,1) = 0; addBoulder(6,2,1) = ILLEGAL_STATE;"
                + "addBoulder(6,11,1) = 9; addBoulder(6,12,1) = CAPACITY_EXCEEDED; addBoulder(6,11,1) = ILLEGAL_STATE;"
                + "addBoulder(6,2,50) = ILLEGAL_STATE; addBoulder(6,2,51) = INVALID_ARGUMENT; addBoulder(20,2,1) = INVALID_ARGUMENT");
    }

    private void ground() {
        Sentence said = says("- `depth`: 0 to 999 - `what`: 0 strength, 1 friction");
        said.holds("addLayer(9,8,7) = 1; ground(0,0) = 8; ground(0,1) = 7; ground(999,0) = 60; ground(999,1) = 9");
        said.noTrace("addLayer(9,8,7) = 1", "ground(-1,0) = INVALID_ARGUMENT", "ground(1000,0) = INVALID_ARGUMENT",
                "ground(0,-1) = INVALID_ARGUMENT", "ground(0,2) = INVALID_ARGUMENT", "ground(LEAST,1) = INVALID_ARGUMENT",
                "ground(MOST,1) = INVALID_ARGUMENT", "ground(0,MOST) = INVALID_ARGUMENT", "ground(999,1) = 9");
    }

    private void boulder() {
        Sentence said = says("Returns the property; INVALID_ARGUMENT if there is no such boulder or what is out of range.");
        said.noTrace("", "boulder(0,0) = INVALID_ARGUMENT", "boulder(-1,0) = INVALID_ARGUMENT");
        said.noTrace("addBoulder(6,9,8) = 0; addBoulder(7,3,4) = 1", "boulder(1,0) = 7", "boulder(1,1) = 3", "boulder(1,2) = 4",
                "boulder(2,0) = INVALID_ARGUMENT", "boulder(-1,0) = INVALID_ARGUMENT", "boulder(0,-1) = INVALID_ARGUMENT",
                "boulder(0,3) = INVALID_ARGUMENT", "boulder(MOST,0) = INVALID_ARGUMENT", "boulder(LEAST,2) = INVALID_ARGUMENT");
        said.holds("addBoulder(6,1,8) = 0; addBoulder(7,3,4) = 1; boulder(1,0) = 7; blast(6,8) = 0; boulder(0,0) = 7;"
                + "boulder(1,0) = INVALID_ARGUMENT; undo() = 2; boulder(1,0) = 7");
    }

    private void state() {
        Sentence said = says("- `what`: 0 W, 1 L, 2 G, 3 c, 4 a plus 10, 5 b plus 10, 6 all ballast, 7 the number of boulders, 8 the"
                + " number of layers, 9 the depth of the groundwater, 10 the stiffness, 11 the number of records");
        said.holds(Run.NO_RESISTANCE + "resize(6,3) = 4; setWeight(13) = 600; setStiffness(14) = 400; pump(15) = 400;"
                + "setBallast(0,16) = 0; setBallast(7,1) = 0; addBoulder(2,2,2) = 0; addBoulder(3,3,3) = 1; settle(3) = 3;"
                + "state(0) = 6; state(1) = 3; state(2) = 13; state(3) = 3; state(4) = 7; state(5) = 7; state(6) = 17; state(7) = 2;"
                + "state(8) = 3; state(9) = 15; state(10) = 14; state(11) = 4");
        said.noTrace("dig(6,1) = 1", "state(-1) = INVALID_ARGUMENT", "state(12) = INVALID_ARGUMENT", "state(0) = 5",
                "state(11) = 1", "state(LEAST) = INVALID_ARGUMENT", "state(MOST) = INVALID_ARGUMENT");
    }

    private void edge() {
        Sentence said = says("Returns the property; INVALID_ARGUMENT if cell is no edge cell or what is out of range.");
        said.noTrace("dig(6,1) = 1; settle(1) = 1", "edge(0,0) = 4", "edge(0,4) = 6", "edge(19,4) = 13",
                "edge(0,-1) = INVALID_ARGUMENT", "edge(0,5) = INVALID_ARGUMENT", "edge(6,0) = INVALID_ARGUMENT",
                "edge(13,4) = INVALID_ARGUMENT", "edge(-1,0) = INVALID_ARGUMENT", "edge(20,0) = INVALID_ARGUMENT",
                "edge(LEAST,4) = INVALID_ARGUMENT", "edge(MOST,4) = INVALID_ARGUMENT", "edge(5,MOST) = INVALID_ARGUMENT");
    }

    private void bottomAndMoment() {
        says("Returns the depth of its bottom; INVALID_ARGUMENT if cell is no well.").noTrace("dig(6,1) = 1", "bottom(6) = 1",
                "bottom(5) = INVALID_ARGUMENT", "bottom(9) = INVALID_ARGUMENT", "bottom(2) = INVALID_ARGUMENT",
                "bottom(17) = INVALID_ARGUMENT", "bottom(-1) = INVALID_ARGUMENT", "bottom(20) = INVALID_ARGUMENT",
                "bottom(LEAST) = INVALID_ARGUMENT", "bottom(MOST) = INVALID_ARGUMENT");
        says("Returns the moment, which may be negative; INVALID_ARGUMENT if axis is out of range.").noTrace("setBallast(19,1) = 0",
                "moment(0) = -16", "moment(1) = -12", "moment(-1) = INVALID_ARGUMENT", "moment(2) = INVALID_ARGUMENT",
                "moment(LEAST) = INVALID_ARGUMENT", "moment(MOST) = INVALID_ARGUMENT");
        says("Returns the surplus, which may be negative.").noTrace("setWeight(1) = 600", "surplus() = -1676");
    }

    private void nextStep() {
        Sentence said = says("Returns 0 if the caisson holds; 1 if a step can be made; 2 if it jams.");
        said.noTrace("setWeight(420) = 600", "nextStep() = 0");
        said.noTrace("setWeight(421) = 600", "nextStep() = 1");
        said.noTrace(Run.NO_RESISTANCE + "setBallast(9,99) = 0; settle(4) = 4", "nextStep() = 1");
        said.noTrace(Run.NO_RESISTANCE + "setBallast(9,99) = 0; settle(5) = 5", "nextStep() = 2");
        said.noTrace(Run.NO_RESISTANCE + "setBallast(9,99) = 0; settle(5) = 5; setStiffness(1584) = 400", "nextStep() = 1");
        said.noTrace(Run.NO_RESISTANCE + "setBallast(9,99) = 0; settle(5) = 5; setStiffness(1583) = 400", "nextStep() = 2");
    }

    private void sideResistance() {
        Sentence said = says("Returns the resistance of a side: the sum over all its edge cells.");
        // 4 x 6 cells, support 2 each at the surface; the corners count for both of their sides.
        said.holds("resize(4,6) = 8; addLayer(9,1,0) = 1; sideResistance(0) = 12; sideResistance(1) = 12; sideResistance(2) = 8;"
                + "sideResistance(3) = 8; dig(5,1) = 1; sideResistance(0) = 10; sideResistance(2) = 6; sideResistance(1) = 12;"
                + "dig(18,1) = 1; sideResistance(1) = 10; sideResistance(3) = 6; sideResistance(0) = 10");
        says("Returns the sum; INVALID_ARGUMENT if side is out of range.").noTrace("dig(6,1) = 1",
                "sideResistance(-1) = INVALID_ARGUMENT", "sideResistance(4) = INVALID_ARGUMENT",
                "sideResistance(LEAST) = INVALID_ARGUMENT", "sideResistance(MOST) = INVALID_ARGUMENT", "sideResistance(3) = 600");
    }

    private void stuckDepth() {
        Sentence said = says("the smallest depth h from c to 200 for which 4 * G and 4 times all ballast is at most the sum of the"
                + " skin forces and buoyancies of all edge cells if c were h and both tilts were 0.");
        // 14 cells, friction 1: 56 for each depth, so 56 * h against 4 * G; equal is enough.
        String friction = "addLayer(100,0,1) = 1; addLayer(100,0,1) = 2;";
        said.run("at most").calls(friction + "setWeight(560) = 600; stuckDepth() = 40; setWeight(561) = 560; stuckDepth() = 41;"
                + "setWeight(559) = 561; stuckDepth() = 40; setBallast(6,1) = 0; stuckDepth() = 40; setBallast(0,1) = 0;"
                + "stuckDepth() = 41; setWeight(1) = 559; stuckDepth() = 1");
        said.run("to 200").calls(friction + "setWeight(2800) = 600; stuckDepth() = 200; setWeight(2801) = 2800; stuckDepth() = NONE;"
                + "setWeight(2786) = 2801; stuckDepth() = 199; setWeight(2787) = 2786; stuckDepth() = 200");
        // From c on, though a smaller depth would do.
        said.run("from c").calls(friction + "settle(30) = 30; setWeight(420) = 600; stuckDepth() = 30; setWeight(421) = 420;"
                + "stuckDepth() = 31; setWeight(100) = 421; stuckDepth() = 30; resize(5,4) = 6; stuckDepth() = 8");
        said.run("at 200").calls(Run.NO_RESISTANCE + "settle(50) = 50; settle(50) = 50; settle(50) = 50; settle(50) = 50;"
                + "stuckDepth() = NONE; pump(29) = 400; stuckDepth() = NONE; pump(28) = 29; stuckDepth() = 200; setWeight(602) = 600; stuckDepth() = 200;"
                + "setWeight(603) = 602; stuckDepth() = NONE");
        says("Returns h; NONE if there is no such depth.").noTrace(Run.NO_RESISTANCE + "dig(6,1) = 1", "stuckDepth() = NONE");
        // Skin of one lubricated side (4 cells), and buoyancy from 10 on: 44 * h + 14 * (h - 10).
        said.run("both forces").calls(friction + "lubricate(0,1) = 1; pump(10) = 400; setWeight(475) = 600; stuckDepth() = 36;"
                + "setWeight(487) = 475; stuckDepth() = 36; setWeight(488) = 487; stuckDepth() = 37");
    }

    private void stuckDepthWithoutSupport() {
        says("Finds the depth to which the caisson could sink without support:").holds("addLayer(100,50,1) = 1;"
                + "addBoulder(0,1,50) = 0; setWeight(560) = 600; stuckDepth() = 40; settle(1) = 1; stuckDepth() = 40");
        // With its tilts the west would lie deeper than the east, in ground of other friction: they don't count.
        says("the smallest depth h from c to 200 for which 4 * G and 4 times all ballast is at most the sum of the skin forces and"
                + " buoyancies of all edge cells if c were h and both tilts were 0.").run("tilts").calls("addLayer(9,0,0) = 1;"
                + "addLayer(100,0,9) = 2; setBallast(5,99) = 0; settle(4) = 4; state(4) = 6; setBallast(5,0) = 99;"
                + "setWeight(252) = 600; stuckDepth() = 11; setWeight(253) = 252; stuckDepth() = 12");
    }

    private void ballastNeeded() {
        Sentence said = says("Finds the least further ballast on all cells together, regardless of where it lies, with which the"
                + " surplus would be above 0.");
        String weak = "addLayer(50,1,0) = 1;";
        said.holds(weak + "setWeight(8) = 600; surplus() = 4; ballastNeeded() = 0; setWeight(7) = 8; surplus() = 0;"
                + "ballastNeeded() = 1; setWeight(6) = 7; surplus() = -4; ballastNeeded() = 2; setBallast(6,2) = 0; surplus() = 4;"
                + "ballastNeeded() = 0");
        said.holds(weak + "setWeight(7) = 600; dig(7,1) = 1; surplus() = 1; ballastNeeded() = 0; nextStep() = 1");
        said.holds(weak + "setWeight(6) = 600; dig(7,1) = 1; surplus() = -3; ballastNeeded() = 1; dig(12,1) = 1; surplus() = -2;"
                + "ballastNeeded() = 1; dig(7,1) = 1; surplus() = -1; ballastNeeded() = 1; dig(12,1) = 1; surplus() = 0;"
                + "ballastNeeded() = 1; setBallast(0,1) = 0; surplus() = 4; ballastNeeded() = 0");
        // More than all cells could carry.
        said.holds("resize(7,7) = 25; setWeight(1) = 600; ballastNeeded() = 720; setBallast(0,99) = 0; ballastNeeded() = 621");
        says("Returns the ballast, 0 or more.").noTrace("setWeight(9999) = 600", "ballastNeeded() = 0");
        says("Returns the ballast, 0 or more.").noTrace("setWeight(1) = 600", "ballastNeeded() = 420");
    }

    private void dig() {
        Sentence said = says("Returns by how much the bottom sank; INVALID_ARGUMENT if cell is no well or amount is out of range;"
                + " ILLEGAL_STATE if it would not sink.");
        said.holds("dig(6,1) = 1; dig(6,10) = 10; dig(6,10) = 1; dig(6,10) = ILLEGAL_STATE; bottom(6) = 12; record(0,1) = 6");
        said.noTrace("dig(6,10) = 10; dig(6,2) = 2; addBoulder(7,3,3) = 0; dig(7,3) = 3", "dig(6,1) = ILLEGAL_STATE",
                "dig(7,10) = ILLEGAL_STATE", "dig(6,0) = INVALID_ARGUMENT", "dig(6,11) = INVALID_ARGUMENT",
                "dig(8,0) = INVALID_ARGUMENT", "dig(8,11) = INVALID_ARGUMENT", "dig(5,1) = INVALID_ARGUMENT",
                "dig(9,1) = INVALID_ARGUMENT", "dig(2,1) = INVALID_ARGUMENT", "dig(17,1) = INVALID_ARGUMENT",
                "dig(-1,1) = INVALID_ARGUMENT", "dig(20,1) = INVALID_ARGUMENT", "dig(MOST,1) = INVALID_ARGUMENT",
                "dig(8,MOST) = INVALID_ARGUMENT", "dig(8,LEAST) = INVALID_ARGUMENT");
    }

    private void settle() {
        Sentence said = says("Returns the number of steps that were made; INVALID_ARGUMENT if steps is out of range; ILLEGAL_STATE if"
                + " the caisson holds.");
        said.holds(Run.NO_RESISTANCE + "settle(1) = 1; settle(50) = 50; state(3) = 51");
        said.noTrace(Run.NO_RESISTANCE + "dig(6,10) = 10", "settle(0) = INVALID_ARGUMENT", "settle(51) = INVALID_ARGUMENT",
                "settle(-1) = INVALID_ARGUMENT", "settle(LEAST) = INVALID_ARGUMENT", "settle(MOST) = INVALID_ARGUMENT");
        said.noTrace("setWeight(1) = 600; dig(6,10) = 10", "settle(1) = ILLEGAL_STATE", "settle(50) = ILLEGAL_STATE",
                "settle(0) = INVALID_ARGUMENT", "settle(51) = INVALID_ARGUMENT");
    }

    private void ballastAndLubrication() {
        Sentence ballast = says("Returns the previous ballast; INVALID_ARGUMENT if an argument is out of range; ILLEGAL_STATE if it is"
                + " so already.");
        ballast.holds("setBallast(0,1) = 0; setBallast(0,99) = 1; setBallast(0,0) = 99; setBallast(0,99) = 0; record(0,1) = 0");
        ballast.noTrace("setBallast(0,1) = 0", "setBallast(0,1) = ILLEGAL_STATE", "setBallast(19,0) = ILLEGAL_STATE",
                "setBallast(-1,0) = INVALID_ARGUMENT", "setBallast(20,0) = INVALID_ARGUMENT", "setBallast(20,1) = INVALID_ARGUMENT",
                "setBallast(0,-1) = INVALID_ARGUMENT", "setBallast(0,100) = INVALID_ARGUMENT", "setBallast(MOST,1) = INVALID_ARGUMENT",
                "setBallast(0,LEAST) = INVALID_ARGUMENT");
        Sentence lubrication = says("Returns the number of lubricated sides then; INVALID_ARGUMENT if an argument is out of range;"
                + " ILLEGAL_STATE if it is so already.");
        lubrication.holds("lubricate(3,1) = 1; lubricate(0,1) = 2; lubricate(3,0) = 1; lubricate(0,0) = 0; record(0,1) = 0;"
                + "record(1,1) = 3");
        lubrication.noTrace("lubricate(0,1) = 1; lubricate(3,1) = 2; lubricate(3,0) = 1", "lubricate(0,1) = ILLEGAL_STATE",
                "lubricate(1,0) = ILLEGAL_STATE", "lubricate(3,0) = ILLEGAL_STATE", "lubricate(-1,0) = INVALID_ARGUMENT",
                "lubricate(4,0) = INVALID_ARGUMENT", "lubricate(-1,1) = INVALID_ARGUMENT", "lubricate(4,1) = INVALID_ARGUMENT",
                "lubricate(0,-1) = INVALID_ARGUMENT", "lubricate(0,2) = INVALID_ARGUMENT", "lubricate(MOST,1) = INVALID_ARGUMENT",
                "lubricate(1,LEAST) = INVALID_ARGUMENT");
    }

    private Sentence saysOfBlasting() {
        return says("Blasts the first boulder of a cell that can be reached: in an edge cell the one with the smallest depth, if this is"
                + " at most the depth of the edge there; in a well the one with the smallest depth that is at least the bottom, if this"
                + " is at most the bottom plus 1.");
    }

    private void blastUnderTheEdge() {
        String ground = Run.NO_RESISTANCE + "addBoulder(0,4,9) = 0; addBoulder(0,2,5) = 0; addBoulder(1,3,7) = 2;";
        saysOfBlasting().noTrace(ground + "settle(1) = 1", "blast(0,1) = ILLEGAL_STATE", "blast(1,1) = ILLEGAL_STATE");
        saysOfBlasting().run("edge").calls(ground + "settle(2) = 2; blast(0,1) = 4; blast(1,1) = ILLEGAL_STATE; settle(1) = 1;"
                + "blast(1,1) = 6; blast(0,4) = 0; blast(0,1) = ILLEGAL_STATE; settle(1) = 1; blast(0,1) = 8; boulder(0,1) = 4");
        // The first one alone, also where deeper ones could be reached.
        saysOfBlasting().run("the first").calls(ground + "settle(9) = 9; blast(0,50) = 0; boulder(0,1) = 4; blast(0,50) = 0;"
                + "boulder(0,0) = 1; blast(0,50) = ILLEGAL_STATE");
        // The depth of the edge there: by the tilt 3 in the west, where c is 1.
        saysOfBlasting().run("depth of the edge").calls(Run.NO_RESISTANCE + "setBallast(5,99) = 0; settle(1) = 1; edge(5,0) = 3;"
                + "addBoulder(5,3,9) = 0; addBoulder(10,4,9) = 1; addBoulder(9,1,9) = 1; edge(9,0) = 0; blast(5,1) = 8;"
                + "blast(10,1) = ILLEGAL_STATE; blast(9,1) = ILLEGAL_STATE");
    }

    private void blastInAWell() {
        for (int depth = 3; depth <= 8; depth++) {
            boolean reached = depth == 5 || depth == 6;
            saysOfBlasting().run("well").calls("dig(6,5) = 5; addBoulder(6," + depth + ",9) = 0; blast(6,4) = "
                    + (reached ? "5" : "ILLEGAL_STATE") + "; boulder(0,2) = " + (reached ? 5 : 9));
        }
        saysOfBlasting().noTrace("dig(6,5) = 5; addBoulder(6,4,9) = 0; addBoulder(6,7,9) = 1; addBoulder(7,5,9) = 2",
                "blast(6,1) = ILLEGAL_STATE", "blast(7,1) = ILLEGAL_STATE", "blast(8,1) = ILLEGAL_STATE");
        // Of one at the bottom and one just below the first; one above the bottom is no hindrance.
        saysOfBlasting().run("the first").calls("dig(6,5) = 5; addBoulder(6,4,9) = 0; addBoulder(6,5,8) = 1; addBoulder(6,6,7) = 2;"
                + "blast(6,3) = 5; boulder(0,2) = 9; boulder(1,2) = 5; boulder(2,2) = 7; blast(6,5) = 0; blast(6,3) = 4;"
                + "boulder(1,1) = 6; blast(6,4) = 0; blast(6,1) = ILLEGAL_STATE; state(7) = 1");
        saysOfBlasting().run("bottom 0").calls("addBoulder(6,1,9) = 0; addBoulder(7,2,9) = 1; blast(6,1) = 8;"
                + "blast(7,1) = ILLEGAL_STATE");
    }

    private void charge() {
        Sentence said = says("If the charge is at least its hardness, it is removed; otherwise its hardness decreases by the charge.");
        for (int charge = 8; charge <= 10; charge++) {
            said.holds("addBoulder(6,1,9) = 0; addBoulder(7,1,3) = 1; blast(6," + charge + ") = " + Math.max(0, 9 - charge)
                    + "; state(7) = " + (charge < 9 ? 2 : 1) + "; boulder(0,2) = " + (charge < 9 ? 1 : 3));
        }
        said.holds("addBoulder(6,1,50) = 0; blast(6,49) = 1; blast(6,1) = 0; addBoulder(6,1,50) = 0; blast(6,50) = 0; state(7) = 0;"
                + "addBoulder(6,1,1) = 0; blast(6,1) = 0; addBoulder(6,1,1) = 0; blast(6,50) = 0; state(7) = 0");
        says("Returns the hardness that is left, 0 if it was removed; INVALID_ARGUMENT if an argument is out of range; ILLEGAL_STATE if"
                + " no boulder can be reached.").noTrace("addBoulder(6,1,9) = 0; dig(7,1) = 1", "blast(6,0) = INVALID_ARGUMENT",
                "blast(6,51) = INVALID_ARGUMENT", "blast(6,-1) = INVALID_ARGUMENT", "blast(-1,1) = INVALID_ARGUMENT",
                "blast(20,1) = INVALID_ARGUMENT", "blast(7,0) = INVALID_ARGUMENT", "blast(7,51) = INVALID_ARGUMENT",
                "blast(7,1) = ILLEGAL_STATE", "blast(0,50) = ILLEGAL_STATE", "blast(MOST,1) = INVALID_ARGUMENT",
                "blast(6,LEAST) = INVALID_ARGUMENT");
    }

    private void pump() {
        Sentence said = says("Returns the previous depth; INVALID_ARGUMENT if depth is out of range; ILLEGAL_STATE if it is so already.");
        said.holds("pump(399) = 400; pump(400) = 399; pump(0) = 400; pump(1) = 0; pump(0) = 1; record(0,1) = 0; record(1,1) = 1");
        said.noTrace("pump(0) = 400", "pump(0) = ILLEGAL_STATE", "pump(-1) = INVALID_ARGUMENT", "pump(401) = INVALID_ARGUMENT");
    }

    private void record() {
        Sentence said = says("Returns the part; INVALID_ARGUMENT if record is negative or part is out of range; NONE if there is no such"
                + " record.");
        said.noTrace("", "record(0,0) = NONE", "record(MOST,2) = NONE", "record(-1,0) = INVALID_ARGUMENT",
                "record(0,-1) = INVALID_ARGUMENT", "record(0,3) = INVALID_ARGUMENT");
        said.noTrace("dig(6,1) = 1; pump(9) = 400", "record(0,0) = 5", "record(1,0) = 0", "record(1,2) = 0", "record(2,0) = NONE",
                "record(-1,0) = INVALID_ARGUMENT", "record(LEAST,0) = INVALID_ARGUMENT", "record(0,-1) = INVALID_ARGUMENT",
                "record(0,3) = INVALID_ARGUMENT", "record(2,3) = INVALID_ARGUMENT", "record(2,-1) = INVALID_ARGUMENT",
                "record(MOST,0) = NONE", "record(MOST,MOST) = INVALID_ARGUMENT");
    }

    private void wouldSettle() {
        Sentence range = says("- `steps`: 1 to 50 - `what`: 0 the number of steps, 1 the tilt a plus 10 then, 2 the tilt b plus 10 then, 3"
                + " 1 if it jams at the next step then (after the heave), otherwise 0");
        range.noTrace(Run.NO_RESISTANCE + "setBallast(19,99) = 0; dig(6,9) = 9", "wouldSettle(1,0) = 1", "wouldSettle(50,0) = 5",
                "wouldSettle(1,1) = 11", "wouldSettle(50,1) = 15", "wouldSettle(1,2) = 11", "wouldSettle(50,2) = 15",
                "wouldSettle(4,3) = 0", "wouldSettle(5,3) = 1", "wouldSettle(50,3) = 1", "wouldSettle(0,0) = INVALID_ARGUMENT",
                "wouldSettle(51,0) = INVALID_ARGUMENT", "wouldSettle(1,-1) = INVALID_ARGUMENT", "wouldSettle(1,4) = INVALID_ARGUMENT",
                "wouldSettle(LEAST,0) = INVALID_ARGUMENT", "wouldSettle(MOST,3) = INVALID_ARGUMENT");
        range.noTrace(Run.NO_RESISTANCE, "wouldSettle(50,0) = 50", "wouldSettle(49,0) = 49");
        Sentence said = says("Tells how far the caisson would sink if it settled now.");
        said.noTrace("setWeight(1) = 600; dig(6,9) = 9", "wouldSettle(9,0) = 0", "wouldSettle(9,1) = 10", "wouldSettle(9,2) = 10",
                "wouldSettle(9,3) = 0", "wouldSettle(0,0) = INVALID_ARGUMENT");
        // Before the heave it would jam in the east; after it the support there is back.
        range.run("after the heave").calls("resize(5,3) = 3; addLayer(100,4,0) = 1; setBallast(9,99) = 0; settle(50) = 5; state(4) = 15;"
                + "setBallast(9,0) = 99; setStiffness(40) = 400; dig(8,10) = 10; dig(8,7) = 7; nextStep() = 2; wouldSettle(1,0) = 0;"
                + "wouldSettle(1,3) = 0; wouldSettle(50,0) = 0; bottom(8) = 17; nextStep() = 2; settle(1) = 0; nextStep() = 1");
        // It holds at 200, and so doesn't jam there.
        range.run("at 200").calls(Run.NO_RESISTANCE + "settle(50) = 50; settle(50) = 50; settle(50) = 50; settle(45) = 45;"
                + "setBallast(9,99) = 0; wouldSettle(50,0) = 5; wouldSettle(50,1) = 15; wouldSettle(50,3) = 0; wouldSettle(4,3) = 0");
    }

    private void bestWell() {
        Sentence said = says("Returns the number of the cell; INVALID_ARGUMENT if amount is out of range; NONE if no bottom can sink.");
        said.noTrace("addLayer(50,1,0) = 1; dig(13,1) = 1", "bestWell(1) = 6", "bestWell(10) = 6", "bestWell(0) = INVALID_ARGUMENT",
                "bestWell(11) = INVALID_ARGUMENT", "bestWell(LEAST) = INVALID_ARGUMENT", "bestWell(MOST) = INVALID_ARGUMENT");
        said.noTrace("resize(3,3) = 1; addBoulder(4,1,5) = 0; dig(4,1) = 1", "bestWell(1) = NONE", "bestWell(10) = NONE",
                "bestWell(0) = INVALID_ARGUMENT", "bestWell(11) = INVALID_ARGUMENT");
        said.noTrace("resize(3,3) = 1; addBoulder(4,2,5) = 0; dig(4,1) = 1", "bestWell(1) = 4", "bestWell(10) = 4");
        // Five of six at their limit: the last one is the best.
        said.run("one is left").calls("addBoulder(6,1,9) = 0; dig(6,1) = 1; addBoulder(7,1,9) = 1; dig(7,1) = 1; addBoulder(8,1,9) = 2;"
                + "dig(8,1) = 1; addBoulder(11,1,9) = 3; dig(11,1) = 1; addBoulder(12,1,9) = 4; dig(12,1) = 1; bestWell(1) = 13;"
                + "addBoulder(13,1,9) = 5; bestWell(1) = 13; dig(13,1) = 1; bestWell(1) = NONE");
    }

    /** Each well is worth a sum of tilts and a depth; the one that wins is told by one of them alone. */
    private void bestOfSeveral() {
        Sentence said = says("The best one leads to the smallest |a| + |b|, of several to the greatest c, of several it is the one with the"
                + " smallest number.");
        // By the wells of the corners it would sink and tilt; by 7 and 12 it sinks upright. Of these it is 7.
        said.run("tilt").calls("setWeight(420) = 600; nextStep() = 0; bestWell(1) = 7; addBoulder(7,1,9) = 0; dig(7,1) = 1;"
                + "setWeight(405) = 420; surplus() = 0; bestWell(1) = 12");
        // By the corners it would sink and tilt; by 7 it holds. The smaller tilt comes before the greater depth.
        said.run("tilt before depth").calls("setWeight(390) = 600; bestWell(1) = 7; setStiffness(9999) = 400; bestWell(1) = 6");
        said.run("depth").calls("resize(7,3) = 5; addBoulder(8,1,5) = 0; dig(8,9) = 1; setStiffness(9999) = 400; setWeight(350) = 600;"
                + "surplus() = -220; bestWell(1) = 12; setWeight(390) = 350; surplus() = -60; bestWell(1) = 9");
        said.run("number").calls("setWeight(1) = 600; bestWell(1) = 6; dig(6,10) = 10; bestWell(1) = 6; dig(6,2) = 2; bestWell(1) = 7;"
                + "dig(7,10) = 10; dig(7,2) = 2; bestWell(1) = 8");
        says("for each well in which the bottom can sink, the caisson is imagined after digging there by the amount and settling with 20"
                + " steps (if it does not hold; where it holds, nothing heaves).").run("20 steps").calls(Run.NO_RESISTANCE
                + "makePlan(20,1) = 1; plan(0,1) = 20; makePlan(21,1) = 2; plan(0,1) = 20; plan(1,1) = 40; makePlan(19,1) = 1;"
                + "plan(0,1) = 20");
        // With a heave where it holds, the well 6 could be dug again and again.
        says("for each well in which the bottom can sink, the caisson is imagined after digging there by the amount and settling with 20"
                + " steps (if it does not hold; where it holds, nothing heaves).").run("no heave").calls("addLayer(50,1,0) = 1;"
                + "setWeight(1) = 600; makePlan(1,6) = 8; plan(0,0) = 6; plan(1,0) = 6; plan(2,0) = 7; plan(3,0) = 7; plan(4,0) = 8");
        says("Nothing changes.").noTrace("addLayer(50,1,0) = 1; dig(13,9) = 9; makePlan(9,2) = 1", "bestWell(5) = 6");
    }

    private void makePlan() {
        Sentence said = says("Returns the number of wells in the plan; INVALID_ARGUMENT if an argument is out of range; ILLEGAL_STATE if c"
                + " is at least the target already.");
        String ground = Run.NO_RESISTANCE + "makePlan(3,7) = 1; settle(5) = 5;";
        said.noTrace(ground, "makePlan(0,1) = INVALID_ARGUMENT", "makePlan(201,1) = INVALID_ARGUMENT",
                "makePlan(6,0) = INVALID_ARGUMENT", "makePlan(6,11) = INVALID_ARGUMENT", "makePlan(-1,1) = INVALID_ARGUMENT",
                "makePlan(5,1) = ILLEGAL_STATE", "makePlan(4,1) = ILLEGAL_STATE", "makePlan(1,10) = ILLEGAL_STATE",
                "makePlan(5,0) = INVALID_ARGUMENT", "makePlan(5,11) = INVALID_ARGUMENT", "makePlan(MOST,1) = INVALID_ARGUMENT",
                "makePlan(LEAST,1) = INVALID_ARGUMENT", "makePlan(6,MOST) = INVALID_ARGUMENT");
        said.holds(ground + "makePlan(6,1) = 1; plan(0,1) = 25; makePlan(25,10) = 1; makePlan(26,10) = 2; makePlan(200,10) = 10;"
                + "plan(9,1) = 200; plan(8,1) = 185");
        said.holds("makePlan(1,1) = 1; makePlan(1,10) = 1; makePlan(200,1) = 12");
        said.run("at 200").calls(Run.NO_RESISTANCE + "settle(50) = 50; settle(50) = 50; settle(50) = 50; settle(49) = 49;"
                + "makePlan(200,1) = 1; plan(0,1) = 200; makePlan(199,1) = ILLEGAL_STATE; settle(1) = 1;"
                + "makePlan(200,1) = ILLEGAL_STATE; makePlan(201,1) = INVALID_ARGUMENT");
        says("Makes a plan of digging, without changing anything else:").run().calls(Run.NO_RESISTANCE + "setBallast(5,9) = 0;")
                .type("stiff 3;").calls("makePlan(150,3) = 8; state(3) = 0; state(4) = 10; bottom(6) = 0; state(11) = 1; load() = 1;"
                        + "state(10) = 3; undo() = 4; undo() = 3; state(6) = 0");
    }

    private void endOfThePlan() {
        Sentence said = says("until c is at least the target, until there is no best well, or after 12 times.");
        said.run("target").calls(Run.NO_RESISTANCE + "makePlan(40,1) = 2; plan(1,1) = 40; makePlan(41,1) = 3; plan(2,1) = 60;"
                + "plan(3,1) = NONE");
        // The only well has a boulder at 5.
        said.run("no best well").calls("resize(3,3) = 1; addBoulder(4,5,9) = 0; setWeight(1) = 600; makePlan(9,1) = 5; plan(4,0) = 4;"
                + "plan(5,0) = NONE; makePlan(9,5) = 1; makePlan(9,4) = 2; makePlan(9,10) = 1; plan(0,0) = 4; plan(1,0) = NONE");
        said.run("12 times").calls("setWeight(1) = 600; makePlan(9,1) = 12; plan(11,0) = 6; plan(12,0) = NONE; makePlan(9,2) = 12;"
                + "plan(5,0) = 6; plan(6,0) = 7; plan(11,0) = 7; plan(12,0) = NONE");
        said.run("the greatest target").calls("addLayer(100,0,0) = 1; addLayer(100,0,0) = 2; addLayer(100,0,0) = 3; settle(1) = 1;"
                + "makePlan(200,1) = 10; plan(9,1) = 200; plan(8,1) = 181");
        // A single well that can be dug, by 1 to its boulder at 11: 11 times.
        said.run("11 times").calls("addBoulder(7,1,9) = 0; dig(7,1) = 1; addBoulder(8,1,9) = 1; dig(8,1) = 1; addBoulder(11,1,9) = 2;"
                + "dig(11,1) = 1; addBoulder(12,1,9) = 3; dig(12,1) = 1; addBoulder(13,1,9) = 4; dig(13,1) = 1; addBoulder(6,11,9) = 0;"
                + "setWeight(1) = 600; makePlan(9,1) = 11; plan(10,0) = 6; plan(11,0) = NONE");
    }

    private void plan() {
        Sentence said = says("Returns the part; INVALID_ARGUMENT if k is negative or part is out of range; NONE if the plan is not so long"
                + " (at first it is empty).");
        said.noTrace("", "plan(0,0) = NONE", "plan(MOST,2) = NONE", "plan(-1,0) = INVALID_ARGUMENT", "plan(0,-1) = INVALID_ARGUMENT",
                "plan(0,3) = INVALID_ARGUMENT");
        said.noTrace(Run.NO_RESISTANCE + "setBallast(0,99) = 0; makePlan(6,2) = 12", "plan(0,0) = 6", "plan(0,1) = 5", "plan(0,2) = 10",
                "plan(11,2) = 10", "plan(12,0) = NONE", "plan(11,3) = INVALID_ARGUMENT", "plan(12,3) = INVALID_ARGUMENT",
                "plan(12,-1) = INVALID_ARGUMENT", "plan(-1,0) = INVALID_ARGUMENT", "plan(LEAST,0) = INVALID_ARGUMENT",
                "plan(MOST,0) = NONE", "plan(MOST,3) = INVALID_ARGUMENT");
    }

    private void carryOut() {
        Sentence said = says("- `count`: 1 to the length of the plan");
        said.noTrace("dig(6,1) = 1", "carryOut(1) = INVALID_ARGUMENT", "carryOut(0) = INVALID_ARGUMENT");
        said.noTrace("setWeight(1) = 600; makePlan(1,4) = 12", "carryOut(0) = INVALID_ARGUMENT", "carryOut(13) = INVALID_ARGUMENT",
                "carryOut(-1) = INVALID_ARGUMENT", "carryOut(LEAST) = INVALID_ARGUMENT", "carryOut(MOST) = INVALID_ARGUMENT");
        said.holds("setWeight(1) = 600; makePlan(1,4) = 12; carryOut(1) = 0; bottom(6) = 4; undo() = 1; carryOut(12) = 0; bottom(6) = 12;"
                + "bottom(7) = 12; bottom(8) = 12; bottom(11) = 12; bottom(12) = 0");
        said.noTrace(Run.NO_RESISTANCE + "makePlan(30,1) = 2", "carryOut(3) = INVALID_ARGUMENT");
        said.holds(Run.NO_RESISTANCE + "makePlan(30,1) = 2; carryOut(2) = 40; undo() = 3; carryOut(1) = 20; carryOut(2) = 60");
        says("Returns c then; INVALID_ARGUMENT if count is out of range.").holds(Run.NO_RESISTANCE + "makePlan(200,1) = 10;"
                + "carryOut(10) = 200; carryOut(10) = 200; state(11) = 0");
        says("each is dug by the amount that was given when the plan was made,").holds("setWeight(1) = 600; makePlan(1,3) = 12;"
                + "bestWell(7) = 6; makePlan(1,11) = INVALID_ARGUMENT; carryOut(1) = 0; bottom(6) = 3; carryOut(1) = 0; bottom(6) = 6");
    }

    private void passedBy() {
        Sentence said = says("if it is a well whose bottom can sink (otherwise it is passed by), and the caisson settles with 20 steps after"
                + " each of them, passed by or not, if it does not hold.");
        // In 3 x 3 the cell 7 is an edge cell, and 12 is none at all.
        said.run("an edge cell").calls("makePlan(1,1) = 1; plan(0,0) = 7; resize(3,3) = 1; addLayer(90,0,0) = 1; carryOut(1) = 20;"
                + "bottom(4) = 0; carryOut(1) = 40");
        said.run("no cell").calls("resize(7,3) = 5; addBoulder(8,1,5) = 0; dig(8,9) = 1; setStiffness(9999) = 400; setWeight(350) = 600;"
                + "makePlan(1,1) = 1; plan(0,0) = 12; resize(3,3) = 1; addLayer(30,0,0) = 1; carryOut(1) = 20; bottom(4) = 0");
        said.run("at its limit").calls("setWeight(420) = 600; makePlan(1,1) = 1; plan(0,0) = 7; addBoulder(7,1,9) = 0; dig(7,1) = 1;"
                + "addLayer(30,0,0) = 1; carryOut(1) = 20; bottom(7) = 1");
        said.run("less than the amount").calls("setWeight(1) = 600; makePlan(1,10) = 10; addBoulder(6,4,1) = 0; carryOut(1) = 0;"
                + "bottom(6) = 4; carryOut(2) = 0; bottom(6) = 4");
        // Where it holds, nothing heaves; where it doesn't, it does, also with a jam.
        said.run("it holds").calls("addLayer(50,1,0) = 1; makePlan(1,1) = 1; plan(0,0) = 6; setWeight(1) = 600; dig(7,10) = 10;"
                + "carryOut(1) = 0; bottom(6) = 1; bottom(7) = 10");
        said.run("it jams").calls(Run.NO_RESISTANCE + "makePlan(1,1) = 1; setBallast(5,99) = 0; settle(5) = 5; nextStep() = 2;"
                + "dig(7,10) = 10; dig(8,9) = 9; carryOut(1) = 5; bottom(6) = 1; bottom(7) = 5; bottom(8) = 9; undo() = 5; bottom(7) = 10");
        said.run("20 steps each").calls(Run.NO_RESISTANCE + "makePlan(60,1) = 3; carryOut(1) = 20; undo() = 3; carryOut(2) = 40; undo() = 3;"
                + "carryOut(3) = 60");
    }

    private void highSide() {
        Sentence said = says("Returns the number of the side; NONE if both tilts are 0.");
        said.noTrace("", "highSide() = NONE");
        said.noTrace(Run.NO_RESISTANCE + "setBallast(5,99) = 0; settle(3) = 3", "highSide() = 1");
        said.run("a").calls(Run.NO_RESISTANCE + "settle(9) = 9; highSide() = NONE; setBallast(5,99) = 0; settle(1) = 1; state(4) = 9;"
                + "highSide() = 1; setBallast(5,0) = 99; setBallast(9,99) = 0; settle(1) = 1; state(4) = 10; highSide() = NONE;"
                + "settle(1) = 1; state(4) = 11; highSide() = 0");
        said.run("b").calls(Run.NO_RESISTANCE + "settle(9) = 9; setBallast(2,99) = 0; settle(1) = 1; state(5) = 9; highSide() = 3;"
                + "setBallast(2,0) = 99; setBallast(17,99) = 0; settle(1) = 1; state(5) = 10; highSide() = NONE; settle(1) = 1;"
                + "state(5) = 11; highSide() = 2");
        // In a square with equal tilts two sides are as high.
        Sentence first = says("the side at which the mean depth of the edge cells is smallest, of several the one with the smallest number.");
        first.run("4 x 4").calls(Run.NO_RESISTANCE + "resize(4,4) = 4; settle(9) = 9; setBallast(15,99) = 0; settle(1) = 1; highSide() = 0;"
                + "undo() = 5; undo() = 4; setBallast(0,99) = 0; settle(1) = 1; highSide() = 1; undo() = 5; undo() = 4;"
                + "setBallast(3,99) = 0; settle(1) = 1; highSide() = 0; undo() = 5; undo() = 4; setBallast(12,99) = 0; settle(1) = 1;"
                + "highSide() = 1");
    }

    private void meanDepths() {
        Sentence said = says("the side at which the mean depth of the edge cells is smallest, of several the one with the smallest number.");
        // The mean, not the sum: 7 cells in the south at 30 each against 3 in the west at 32 each.
        said.run("no sum").calls(Run.NO_RESISTANCE + "resize(7,3) = 5; settle(30) = 30; setBallast(17,99) = 0; settle(2) = 2; state(5) = 12;"
                + "edge(0,0) = 30; edge(14,0) = 34; highSide() = 2");
        // a = 1, b = 2 in 5 x 3: west (3 cells) and south (5 cells) have the same mean.
        said.run("equal means").calls(Run.NO_RESISTANCE + "resize(5,3) = 3; settle(20) = 20; setBallast(14,99) = 0; settle(1) = 1;"
                + "setBallast(14,0) = 99; setBallast(12,99) = 0; settle(1) = 1; state(4) = 11; state(5) = 12; state(3) = 22; edge(0,0) = 18;"
                + "edge(10,0) = 22; edge(4,0) = 22; highSide() = 0");
        // a = 1, b = 1 in 3 x 4 at 40: west 38.5 and south 38.33, which rounded would be the same.
        said.run("not rounded").calls(Run.NO_RESISTANCE + "resize(3,4) = 2; settle(39) = 39; setBallast(11,99) = 0; settle(1) = 1;"
                + "state(4) = 11; state(5) = 11; edge(0,0) = 37; edge(3,0) = 38; edge(6,0) = 39; edge(9,0) = 40; edge(1,0) = 38;"
                + "edge(2,0) = 39; highSide() = 2");
        // a = -1, b = 2 in 5 x 3 near the surface: a depth is at least 0, and so the south is higher than the east.
        said.run("at least 0").calls(Run.NO_RESISTANCE + "resize(5,3) = 3; setBallast(10,99) = 0; settle(1) = 1; setBallast(10,0) = 99;"
                + "setBallast(12,99) = 0; settle(1) = 1; state(4) = 9; state(5) = 12; state(3) = 2; highSide() = 2; setBallast(12,0) = 99;"
                + "settle(20) = 20; state(4) = 9; state(5) = 12; highSide() = 1");
    }

    private void undo() {
        Sentence said = says("Returns the number of states that are still saved; ILLEGAL_STATE if there is none.");
        said.noTrace("", "undo() = ILLEGAL_STATE");
        said.noTrace("dig(6,1) = 1; undo() = 0", "undo() = ILLEGAL_STATE");
        said.noTraceOnText("stiff 3;", "makePlan(1,1) = 1", "undo() = ILLEGAL_STATE");
        said.holds("dig(6,1) = 1; dig(6,1) = 1; undo() = 1; bottom(6) = 1; undo() = 0; bottom(6) = 0; undo() = ILLEGAL_STATE");
    }

    /** Two codes apply at once, and the one that is named first is returned. */
    private void firstErrorCode() {
        Sentence said = says("If several error codes apply, the one that is named first in the description of the method is returned;");
        said.run("text").type(" ".repeat(200)).calls("appendCharacter(256) = INVALID_ARGUMENT; appendCharacter(32) = CAPACITY_EXCEEDED");
        said.run("layers").calls("addLayer(1,1,1) = 1; addLayer(1,1,1) = 2; addLayer(1,1,1) = 3; addLayer(1,1,1) = 4; addLayer(1,1,1) = 5;"
                + "addLayer(1,1,1) = 6; addLayer(1,1,1) = 7; addLayer(1,1,1) = 8; addLayer(0,1,1) = INVALID_ARGUMENT;"
                + "addLayer(1,1,1) = CAPACITY_EXCEEDED");
        said.run("work").calls("dig(6,10) = 10; dig(6,2) = 2; dig(6,0) = INVALID_ARGUMENT; setWeight(1) = 600; settle(0) = INVALID_ARGUMENT;"
                + "setBallast(20,0) = INVALID_ARGUMENT; lubricate(4,0) = INVALID_ARGUMENT; blast(0,0) = INVALID_ARGUMENT;"
                + "setWeight(600) = 1; settle(1) = 1; makePlan(0,1) = INVALID_ARGUMENT; makePlan(1,0) = INVALID_ARGUMENT;"
                + "makePlan(1,1) = ILLEGAL_STATE");
        says("NONE is no error, and it is returned only if no error code applies.").holds("record(5,3) = INVALID_ARGUMENT;"
                + "record(5,2) = NONE; plan(5,3) = INVALID_ARGUMENT; plan(5,2) = NONE; resize(3,3) = 1; addBoulder(4,1,1) = 0;"
                + "dig(4,1) = 1; bestWell(11) = INVALID_ARGUMENT; bestWell(10) = NONE");
    }
}
