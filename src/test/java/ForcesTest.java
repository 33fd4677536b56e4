/** Promises 13 to 20, and with them the terms about forces, moments and steps. */
public final class ForcesTest {
    private final Checks checks = new Checks("ForcesTest");

    public static void main(String[] args) {
        new ForcesTest().go();
    }

    private void go() {
        wellsBeside();
        edgeDepth();
        support();
        skinForce();
        buoyancy();
        wrongEdges();
        bottom();
        surplusAndMoments();
        nextStep();
        stiffness();
        sideResistance();
        stuckDepth();
        ballastNeeded();
        checks.finish();
    }

    private Run run(String name) {
        return new Run(checks, name);
    }

    private void wellsBeside() {
        run("promise 13: wells").calls("edge(0,4) = 6; edge(1,4) = 6; edge(2,4) = 7; edge(3,4) = 8;"
                + "edge(4,4) = 8; edge(5,4) = 6; edge(9,4) = 8; edge(10,4) = 11; edge(14,4) = 13;"
                + "edge(15,4) = 11; edge(16,4) = 11; edge(17,4) = 12; edge(18,4) = 13; edge(19,4) = 13");
        run("promise 13: wells of 7 x 3").calls("resize(7,3) = 5; edge(0,4) = 8; edge(3,4) = 10;"
                + "edge(6,4) = 12; edge(7,4) = 8; edge(13,4) = 12; edge(14,4) = 8; edge(18,4) = 11; edge(20,4) = 12");
        run("promise 13: wells of 3 x 3").calls("resize(3,3) = 1; edge(0,4) = 4; edge(1,4) = 4; edge(5,4) = 4;"
                + "edge(8,4) = 4; edge(4,4) = INVALID_ARGUMENT");
    }

    private void edgeDepth() {
        // Ballast in the cell (0, 1): both tilts become -1, and stay so without it.
        run("promise 13: depth").calls(Run.NO_RESISTANCE + "setStiffness(0) = 400; setBallast(5,99) = 0;"
                + "settle(1) = 1; state(4) = 9; state(5) = 9; edge(0,0) = 4; edge(5,0) = 3; edge(10,0) = 2;"
                + "edge(15,0) = 1; edge(9,0) = 0; edge(19,0) = 0; setBallast(5,0) = 99; settle(4) = 4;"
                + "state(4) = 9; state(5) = 9; edge(0,0) = 8; edge(1,0) = 7; edge(5,0) = 7; edge(10,0) = 6;"
                + "edge(9,0) = 3; edge(14,0) = 2; edge(4,0) = 4; edge(19,0) = 1");
        // The other way: ballast in (4, 2), tilts of +1.
        run("promise 13: depth").calls(Run.NO_RESISTANCE + "setStiffness(0) = 400; setBallast(14,99) = 0;"
                + "settle(1) = 1; state(4) = 11; state(5) = 11; edge(14,0) = 3; edge(9,0) = 2; edge(19,0) = 4;"
                + "edge(0,0) = 0; edge(10,0) = 0; edge(18,0) = 3");
    }

    private void support() {
        run("promise 13: support").calls("addLayer(50,3,1) = 1; edge(0,1) = 6; dig(6,1) = 1; edge(0,1) = 3;"
                + "edge(2,1) = 6; dig(6,1) = 1; edge(0,1) = 0; dig(6,1) = 1; edge(0,1) = 0; settle(2) = 2;"
                + "edge(0,0) = 2; edge(0,1) = 3; edge(2,1) = 12; settle(1) = 1; edge(0,1) = 6; settle(1) = 1;"
                + "edge(0,1) = 9; settle(1) = 1; edge(0,1) = 12; settle(1) = 1; edge(0,1) = 12");
        run("promise 13: strength at the edge").calls("addLayer(1,2,0) = 1; addLayer(1,5,0) = 2;"
                + "edge(0,1) = 4; settle(1) = 1; edge(0,1) = 15; settle(1) = 1; edge(0,1) = 240");
        run("promise 13: boulders").calls("addLayer(50,0,0) = 1; addBoulder(0,1,10) = 0; addBoulder(0,2,7) = 1;"
                + "addBoulder(1,1,3) = 2; addBoulder(6,1,30) = 3; edge(0,1) = 0; settle(1) = 1; edge(0,0) = 1;"
                + "edge(0,1) = 40; edge(1,1) = 12; edge(5,1) = 0; settle(1) = 1; edge(0,1) = 68; edge(1,1) = 12");
    }

    private void skinForce() {
        run("promise 13: skin").calls("addLayer(2,0,3) = 1; addLayer(50,0,1) = 2; edge(0,2) = 0; settle(1) = 1;"
                + "edge(0,2) = 12; settle(1) = 1; edge(0,2) = 24; settle(1) = 1; edge(0,2) = 28;"
                + "lubricate(2,1) = 1; edge(0,2) = 7; edge(4,2) = 7; edge(2,2) = 7; edge(5,2) = 28;"
                + "edge(15,2) = 28; lubricate(0,1) = 2; edge(0,2) = 7; edge(5,2) = 7; edge(15,2) = 7;"
                + "edge(19,2) = 28; lubricate(2,0) = 1; edge(0,2) = 7; edge(2,2) = 28; edge(4,2) = 28;"
                + "lubricate(1,1) = 2; edge(4,2) = 7; edge(9,2) = 7; edge(18,2) = 28; lubricate(3,1) = 3;"
                + "edge(18,2) = 7; edge(3,2) = 28");
        run("promise 13: skin of many layers").calls("addLayer(2,0,1) = 1; addLayer(3,0,2) = 2; addLayer(1,0,5) = 3;"
                + "addLayer(9,0,3) = 4; settle(5) = 5; edge(0,2) = 32; settle(1) = 1; edge(0,2) = 52; settle(2) = 2;"
                + "edge(0,2) = 76");
        run("promise 13: skin below all layers").calls("addLayer(1,0,2) = 1; setWeight(9999) = 600; settle(3) = 3;"
                + "edge(0,2) = 80");
    }

    private void buoyancy() {
        run("promise 13: buoyancy").calls("addLayer(50,0,0) = 1; settle(5) = 5; edge(0,3) = 0; pump(2) = 400;"
                + "edge(0,3) = 3; pump(0) = 2; edge(0,3) = 5; pump(5) = 0; edge(0,3) = 0; pump(6) = 5;"
                + "edge(0,3) = 0; pump(4) = 6; surplus() = 2386");
    }

    private void wrongEdges() {
        run("promise 13: wrong").calls("edge(0,-1) = INVALID_ARGUMENT; edge(0,5) = INVALID_ARGUMENT;"
                + "edge(6,0) = INVALID_ARGUMENT; edge(13,4) = INVALID_ARGUMENT; edge(-1,0) = INVALID_ARGUMENT;"
                + "edge(20,0) = INVALID_ARGUMENT; edge(LEAST,0) = INVALID_ARGUMENT;"
                + "edge(MOST,LEAST) = INVALID_ARGUMENT; edge(19,0) = 0");
    }

    private void bottom() {
        run("promise 14").calls("dig(6,3) = 3; dig(13,10) = 10; bottom(6) = 3; bottom(7) = 0; bottom(13) = 10;"
                + "bottom(5) = INVALID_ARGUMENT; bottom(14) = INVALID_ARGUMENT; bottom(0) = INVALID_ARGUMENT;"
                + "bottom(-1) = INVALID_ARGUMENT; bottom(20) = INVALID_ARGUMENT; bottom(MOST) = INVALID_ARGUMENT");
    }

    private void surplusAndMoments() {
        run("promise 15").calls("surplus() = 720; setWeight(1) = 600; surplus() = -1676; setBallast(0,99) = 0;"
                + "surplus() = -1280; setBallast(6,99) = 0; surplus() = -884");
        // Beside the well 6 lie the cells 0, 1 and 5; each resists by 1 less than the others.
        run("promise 16").calls("addLayer(50,1,0) = 1; moment(0) = 0; moment(1) = 0; dig(6,1) = 1;"
                + "moment(0) = 10; moment(1) = 7; setBallast(6,10) = 0; moment(0) = 90; moment(1) = 47;"
                + "setBallast(4,5) = 0; moment(0) = 10; moment(1) = 107; setBallast(19,99) = 0; moment(0) = -1574;"
                + "moment(1) = -1081; moment(-1) = INVALID_ARGUMENT; moment(2) = INVALID_ARGUMENT;"
                + "moment(MOST) = INVALID_ARGUMENT");
    }

    private void nextStep() {
        run("promise 17: holds at 0").calls("addLayer(50,1,0) = 1; setWeight(7) = 600; surplus() = 0; nextStep() = 0;"
                + "settle(1) = ILLEGAL_STATE; setWeight(8) = 7; surplus() = 4; nextStep() = 1");
        run("promise 17: jams").calls(Run.NO_RESISTANCE + "setBallast(5,99) = 0; nextStep() = 1; settle(50) = 5;"
                + "state(3) = 5; state(4) = 5; state(5) = 10; nextStep() = 2; settle(9) = 0; state(3) = 5;"
                + "state(4) = 5; setBallast(5,0) = 99; nextStep() = 1; settle(2) = 2; state(4) = 5");
        // b could still change, but the step isn't made.
        run("promise 17: jams by one tilt").calls(Run.NO_RESISTANCE + "setBallast(9,99) = 0; settle(50) = 5;"
                + "state(4) = 15; state(5) = 10; setStiffness(300) = 400; nextStep() = 2; settle(1) = 0;"
                + "state(5) = 10; setBallast(9,0) = 99; setBallast(2,99) = 0; nextStep() = 1; settle(50) = 5;"
                + "state(4) = 15; state(5) = 5; nextStep() = 2; state(3) = 10");
        run("promise 17: holds at 200").calls(Run.NO_RESISTANCE + "settle(50) = 50; settle(50) = 50; settle(50) = 50;"
                + "settle(49) = 49; nextStep() = 1; settle(50) = 1; state(3) = 200; surplus() = 2400; nextStep() = 0;"
                + "settle(1) = ILLEGAL_STATE; wouldSettle(1,0) = 0; stuckDepth() = NONE");
    }

    private void stiffness() {
        String begin = Run.NO_RESISTANCE;
        run("a step: a down").calls(begin + "setBallast(6,10) = 0; moment(0) = 80; setStiffness(80) = 400;"
                + "settle(1) = 1; state(4) = 10; setStiffness(79) = 80; settle(1) = 1; state(4) = 9; state(5) = 10");
        run("a step: a up").calls(begin + "setBallast(8,10) = 0; moment(0) = -80; setStiffness(80) = 400;"
                + "settle(1) = 1; state(4) = 10; setStiffness(79) = 80; settle(1) = 1; state(4) = 11; state(5) = 10");
        run("a step: b down").calls(begin + "setBallast(7,10) = 0; moment(1) = 40; setStiffness(40) = 400;"
                + "settle(1) = 1; state(5) = 10; setStiffness(39) = 40; settle(1) = 1; state(5) = 9; state(4) = 10");
        run("a step: b up").calls(begin + "setBallast(12,10) = 0; moment(1) = -40; setStiffness(40) = 400;"
                + "settle(1) = 1; state(5) = 10; setStiffness(39) = 40; settle(1) = 1; state(5) = 11; state(4) = 10");
    }

    private void sideResistance() {
        run("promise 18").calls("addLayer(50,1,0) = 1; dig(6,1) = 1; sideResistance(0) = 6; sideResistance(1) = 8;"
                + "sideResistance(2) = 8; sideResistance(3) = 10; sideResistance(-1) = INVALID_ARGUMENT;"
                + "sideResistance(4) = INVALID_ARGUMENT; sideResistance(LEAST) = INVALID_ARGUMENT");
        // Each cell: support 4, skin 4 * 3 (3 where slippery), buoyancy 2.
        run("promise 18: all three forces").calls("addLayer(50,1,1) = 1; settle(3) = 3; pump(1) = 400;"
                + "sideResistance(0) = 72; sideResistance(2) = 90; lubricate(1,1) = 1; sideResistance(0) = 72;"
                + "sideResistance(1) = 36; sideResistance(2) = 81; sideResistance(3) = 81;"
                + "lubricate(3,1) = 2; sideResistance(3) = 45; sideResistance(0) = 63; sideResistance(2) = 81");
    }

    private void stuckDepth() {
        run("promise 19: skin").calls("addLayer(100,0,1) = 1; addLayer(100,0,1) = 2; stuckDepth() = 43;"
                + "setBallast(7,99) = 0; stuckDepth() = 50; setBallast(7,0) = 99; lubricate(0,1) = 1;"
                + "stuckDepth() = 55; lubricate(1,1) = 2; stuckDepth() = 75; lubricate(2,1) = 3; stuckDepth() = 105;"
                + "lubricate(3,1) = 4; stuckDepth() = 172; setWeight(700) = 600; stuckDepth() = 200;"
                + "setWeight(701) = 700; stuckDepth() = NONE");
        run("promise 19: buoyancy").calls(Run.NO_RESISTANCE + "stuckDepth() = NONE; pump(10) = 400; stuckDepth() = 182;"
                + "setWeight(7) = 600; stuckDepth() = 12; setWeight(8) = 7; stuckDepth() = 13");
        run("promise 19: from c").calls("addLayer(100,0,1) = 1; setWeight(9999) = 600; settle(50) = 50;"
                + "setWeight(600) = 9999; stuckDepth() = 50; resize(5,4) = 6; stuckDepth() = 43");
        run("promise 19: without tilts and support").calls("addLayer(30,9,1) = 1; addLayer(30,50,2) = 2;"
                + "setStiffness(0) = 400; setBallast(0,99) = 0; addBoulder(0,1,50) = 0; settle(2) = 2;"
                + "state(4) = 8; state(5) = 8; stuckDepth() = 40");
    }

    private void ballastNeeded() {
        run("promise 20").calls("ballastNeeded() = 0; setWeight(1) = 600; surplus() = -1676; ballastNeeded() = 420;"
                + "setWeight(420) = 1; surplus() = 0; ballastNeeded() = 1; setWeight(421) = 420; ballastNeeded() = 0");
        run("promise 20: surplus 1").calls("addLayer(50,1,0) = 1; dig(7,1) = 1; setWeight(7) = 600; surplus() = 1;"
                + "ballastNeeded() = 0; nextStep() = 1");
        run("promise 20: no multiple of 4").calls("addLayer(50,1,0) = 1; dig(6,1) = 1; setWeight(1) = 600;"
                + "surplus() = -21; ballastNeeded() = 6; setWeight(6) = 1; surplus() = -1; ballastNeeded() = 1;"
                + "setWeight(7) = 6; surplus() = 3; ballastNeeded() = 0; setWeight(5) = 7; surplus() = -5;"
                + "ballastNeeded() = 2; setBallast(7,2) = 0; surplus() = 3; ballastNeeded() = 0");
    }
}
