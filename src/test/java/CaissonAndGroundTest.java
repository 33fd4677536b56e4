/** Promises 1 to 12. */
public final class CaissonAndGroundTest {
    private static final String AS_AT_FIRST = "state(0) = 5; state(1) = 4; state(2) = 600;"
            + "state(3) = 0; state(4) = 10; state(5) = 10; state(6) = 0; state(7) = 0; state(8) = 0;"
            + "state(9) = 400; state(10) = 400; state(11) = 0; bottom(6) = 0; bottom(7) = 0;"
            + "bottom(8) = 0; bottom(11) = 0; bottom(12) = 0; bottom(13) = 0;"
            + "ground(0,0) = 60; ground(0,1) = 9; record(0,0) = NONE; boulder(0,0) = INVALID_ARGUMENT;"
            + "lubricate(0,0) = ILLEGAL_STATE; lubricate(1,0) = ILLEGAL_STATE;"
            + "lubricate(2,0) = ILLEGAL_STATE; lubricate(3,0) = ILLEGAL_STATE;"
            + "surplus() = 720; moment(0) = 0; moment(1) = 0;";
    /** Changes everything that a state has. */
    private static final String MANY_CHANGES = "addLayer(30,2,0) = 1; setWeight(700) = 600;"
            + "setStiffness(10) = 400; addBoulder(1,9,3) = 0; dig(6,4) = 4; setBallast(5,50) = 0;"
            + "setBallast(8,7) = 0; lubricate(2,1) = 1; pump(100) = 400; settle(3) = 3;";

    private final Checks checks = new Checks("CaissonAndGroundTest");

    public static void main(String[] args) {
        new CaissonAndGroundTest().go();
    }

    private void go() {
        newObject();
        appendCharacterAndClearText();
        goodTexts();
        badTexts();
        endOfTheText();
        readAgain();
        capacityInTexts();
        loadBeginsAnew();
        resize();
        weightAndStiffness();
        layersAndGround();
        boulders();
        state();
        checks.finish();
    }

    private Run run(String name) {
        return new Run(checks, name);
    }

    private void newObject() {
        run("promise 1").calls(AS_AT_FIRST + "plan(0,0) = NONE; clearText() = 0; load() = 0; undo() = 0");
        run("promise 1").calls("undo() = ILLEGAL_STATE; stuckDepth() = 5; highSide() = NONE;"
                + "carryOut(1) = INVALID_ARGUMENT");
    }

    private void appendCharacterAndClearText() {
        run("promise 2").calls("appendCharacter(-1) = INVALID_ARGUMENT;"
                + "appendCharacter(256) = INVALID_ARGUMENT; appendCharacter(LEAST) = INVALID_ARGUMENT;"
                + "appendCharacter(MOST) = INVALID_ARGUMENT; appendCharacter(0) = 1;"
                + "appendCharacter(255) = 2; clearText() = 2; clearText() = 0; appendCharacter(32) = 1");
        run("promise 2").type(" ".repeat(199)).calls("appendCharacter(32) = 200;"
                + "appendCharacter(32) = CAPACITY_EXCEEDED; appendCharacter(256) = INVALID_ARGUMENT;"
                + "load() = 0; appendCharacter(32) = 1");
        run("promise 3").type(" ".repeat(200)).calls("clearText() = 200; clearText() = 0;"
                + "appendCharacter(59) = 1; load() = -10");
    }

    private void loads(String text, int answer) {
        run("promise 4: " + text).type(text).calls("load() = " + answer + "; clearText() = "
                + (answer < 0 ? text.length() : 0));
    }

    private void goodTexts() {
        loads("", 0);
        loads("   ", 0);
        loads("plan 3 3;", 1);
        loads("plan3 3;", 1);
        loads("  plan  7 7 ;  ", 1);
        loads("plan 3 7;weight1;water0;stiff0;layer1 0 0;boulder0 0 1 1;", 6);
        loads("weight 9999;water 400;stiff 9999;layer 100 50 9;boulder 4 3 200 50;", 5);
        loads("plan 7 3;boulder 6 2 1 1;", 2);
        loads("boulder 1 1 5 5;boulder 1 2 5 5;boulder 2 1 5 5;boulder 1 1 6 5;", 4);
        run("promise 4: the last one counts").type("weight 5;water 6;stiff 7;stiff 8;water 9;weight 10;")
                .calls("load() = 6; state(2) = 10; state(9) = 9; state(10) = 8");
        run("promise 4: order").type("layer 2 3 4;boulder 4 3 7 9;layer 5 6 7;boulder 3 1 2 8;")
                .calls("load() = 4; state(8) = 2; ground(1,0) = 3; ground(1,1) = 4; ground(2,0) = 6;"
                        + "ground(6,1) = 7; ground(7,0) = 60; state(7) = 2; boulder(0,0) = 8;"
                        + "boulder(0,1) = 2; boulder(0,2) = 8; boulder(1,0) = 19; boulder(1,1) = 7;"
                        + "boulder(1,2) = 9");
        run("promise 4: columns before rows").type("plan 6 3;boulder 5 1 4 2;")
                .calls("load() = 2; state(0) = 6; state(1) = 3; boulder(0,0) = 11; bottom(7) = 0;"
                        + "bottom(10) = 0; bottom(11) = INVALID_ARGUMENT");
    }

    private void badTexts() {
        // words
        loads("pla", -10);
        loads("plann 3 3;", -10);
        loads("Plan 3 3;", -10);
        loads("pLan 3 3;", -10);
        loads("xlan 3 3;", -10);
        loads("weightz 5;", -10);
        loads("aweight 5;", -10);
        loads("layers 1 1 1;", -10);
        loads(" x;", -11);
        loads("weight weight 5;", -17);
        loads("weight 5a;", -18);
        loads("weight 5 water 6;", -19);
        loads("weight 5;plan 3 3;", -19);
        loads("plan 3 3;plan 3 3;", -19);
        // the end of the text
        loads("plan", -14);
        loads("plan 3", -16);
        loads("plan 3 3", -18);
        loads("plan 3 3  ", -20);
        loads("weight 5;layer 1 1", -28);
        // numbers
        loads("5;", -10);
        loads("plan 2 3;", -15);
        loads("plan 8 3;", -15);
        loads("plan 33;", -15);
        loads("plan 3 2;", -17);
        loads("plan 3 8;", -17);
        loads("plan 3 3 3;", -19);
        loads("weight 0;", -17);
        loads("weight 0", -17);
        loads("weight 10000;", -17);
        loads("weight 0005;", -17);
        loads("weight 05;", -17);
        loads("weight 99999999999999999999;", -17);
        loads("weight 5 6;", -19);
        loads("water 401;", -16);
        loads("water 00;", -16);
        loads("stiff 10000;", -16);
        loads("stiff 00;", -16);
        loads("layer 0 0 0;", -16);
        loads("layer 101 0 0;", -16);
        loads("layer 1 51 0;", -18);
        loads("layer 1 0 10;", -20);
        loads("layer 1 0;", -19);
        loads("layer 1 00 0;", -18);
        loads("layer 1 0 00;", -20);
        loads("boulder 00 0 1 1;", -18);
        loads("boulder 0 00 1 1;", -20);
        loads("boulder 5 0 1 1;", -18);
        loads("boulder 0 4 1 1;", -20);
        loads("boulder 0 0 0 1;", -22);
        loads("boulder 0 0 201 1;", -22);
        loads("boulder 0 0 1 0;", -24);
        loads("boulder 0 0 1 51;", -24);
        loads("plan 3 3;boulder 3 0 1 1;", -27);
        loads("plan 3 3;boulder 0 3 1 1;", -29);
        loads("boulder 4 3 7 1;boulder 4 3 7 2;", -38);
        // other characters
        loads(";", -10);
        loads("weight;", -16);
        loads("weight 5;;", -19);
        loads("weight -5;", -17);
        loads("weight 5.;", -18);
        loads("weight 5\t;", -18);
        loads("weight 5\n;", -18);
        loads("weight 5;#", -19);
        loads("weight 5; `", -20);
        loads("weight 5{;", -18);
        loads("weight 5/;", -18);
        loads("weight 5:;", -18);
        loads("weight " + (char) 0 + "5;", -17);
        loads((char) 255 + "weight 5;", -10);
        loads((char) 160 + "weight 5;", -10);
    }

    private void endOfTheText() {
        loads(" ".repeat(199) + "x", -209);
        loads(" ".repeat(199) + "5", -209);
        loads(" ".repeat(199) + ";", -209);
        loads(" ".repeat(192) + "weight 5", -210);
        loads(" ".repeat(194) + "weight", -210);
        loads(" ".repeat(191) + "weight 5;", 1);
        // What a longer text has left behind doesn't count.
        run("promise 4: a shorter text").type("weight 55;").type("weight 5").calls("load() = -18");
        run("promise 4: a shorter text").type("weight 5;x").type("weigh").calls("load() = -10");
    }

    private void readAgain() {
        run("promise 4: again").type("plan 3 3;weight 5;water 6;stiff 7;layer 1 2 3;boulder 1 1 1 1;x")
                .calls("load() = -72").type("").calls("load() = 0;" + AS_AT_FIRST)
                .type("plan 3 3;weight 5;water 6;stiff 7;layer 1 2 3;boulder 1 1 1 1;")
                .calls("load() = 6; state(0) = 3; state(7) = 1; pump(7) = 6; setBallast(0,9) = 0;"
                        + "lubricate(0,1) = 1; dig(4,1) = 1; load() = 0;" + AS_AT_FIRST);
    }

    private void capacityInTexts() {
        loads("layer1 0 0;".repeat(8), 8);
        loads("layer1 0 0;".repeat(9), -98);
        StringBuilder text = new StringBuilder();
        for (int depth = 1; depth <= 10; depth++) {
            text.append("boulder0 0 ").append(depth).append(" 1;");
        }
        loads(text.toString(), 10);
        loads(text + "boulder0 0 10 1;", -10 - text.length());
        loads(text + "weight 3;boulder", -19 - text.length());
    }

    private void loadBeginsAnew() {
        run("promise 4: as at first").calls(MANY_CHANGES + "load() = 0;" + AS_AT_FIRST
                + "undo() = 5; state(11) = 6; state(8) = 1; state(3) = 3; state(6) = 57; state(7) = 1;"
                + "state(2) = 700; state(10) = 10; state(9) = 100; bottom(6) = 4; lubricate(2,1) = ILLEGAL_STATE");
        run("promise 4: an error changes nothing").calls(MANY_CHANGES).type("plan 3 3;weight 5;x")
                .calls("load() = -28; state(0) = 5; state(2) = 700; state(11) = 6; state(3) = 3;"
                        + "bottom(6) = 4; undo() = 5; state(3) = 0");
        run("promise 4: the plan of digging stays").calls("makePlan(1,1) = 1; load() = 0; plan(0,0) = 7");
    }

    private void resize() {
        run("promise 5").calls("resize(3,3) = 1; resize(7,7) = 25; resize(3,7) = 5; resize(7,3) = 5;"
                + "resize(5,4) = 6; resize(6,4) = 8; state(0) = 6; state(1) = 4; bottom(10) = 0;"
                + "bottom(11) = INVALID_ARGUMENT");
        run("promise 5: wrong").calls("resize(2,3) = INVALID_ARGUMENT; resize(3,2) = INVALID_ARGUMENT;"
                + "resize(8,3) = INVALID_ARGUMENT; resize(3,8) = INVALID_ARGUMENT;"
                + "resize(LEAST,MOST) = INVALID_ARGUMENT; state(0) = 5; undo() = ILLEGAL_STATE");
        run("promise 5: what goes").calls("setBallast(0,9) = 0; setBallast(19,9) = 0; lubricate(0,1) = 1;"
                + "lubricate(3,1) = 2; dig(6,1) = 1; dig(13,1) = 1; resize(5,4) = 6; state(6) = 0;"
                + "setBallast(0,0) = ILLEGAL_STATE; lubricate(0,0) = ILLEGAL_STATE; lubricate(3,0) = ILLEGAL_STATE;"
                + "bottom(6) = 0; bottom(13) = 0; setBallast(19,0) = ILLEGAL_STATE");
        run("promise 5: what stays").calls(MANY_CHANGES + "resize(4,5) = 6; state(0) = 4; state(1) = 5;"
                + "state(2) = 700; state(3) = 0; state(4) = 10; state(5) = 10; state(6) = 0;"
                + "state(7) = 0; state(8) = 1; state(9) = 100; state(10) = 10; state(11) = 6;"
                + "record(0,0) = 1; bottom(5) = 0; bottom(6) = 0; lubricate(2,0) = ILLEGAL_STATE; ground(0,0) = 2");
    }

    private void weightAndStiffness() {
        run("promise 6").calls("setWeight(1) = 600; state(2) = 1; setWeight(9999) = 1; setWeight(9999) = 9999;"
                + "setWeight(0) = INVALID_ARGUMENT; setWeight(10000) = INVALID_ARGUMENT;"
                + "setWeight(-5) = INVALID_ARGUMENT; state(2) = 9999; surplus() = 38316; state(11) = 0; undo() = 2");
        run("promise 7").calls("setStiffness(0) = 400; state(10) = 0; setStiffness(9999) = 0;"
                + "setStiffness(9999) = 9999; setStiffness(-1) = INVALID_ARGUMENT;"
                + "setStiffness(10000) = INVALID_ARGUMENT; state(10) = 9999; state(11) = 0; undo() = 2");
    }

    private void layersAndGround() {
        run("promise 8").calls("addLayer(0,0,0) = INVALID_ARGUMENT; addLayer(101,0,0) = INVALID_ARGUMENT;"
                + "addLayer(1,-1,0) = INVALID_ARGUMENT; addLayer(1,51,0) = INVALID_ARGUMENT;"
                + "addLayer(1,0,-1) = INVALID_ARGUMENT; addLayer(1,0,10) = INVALID_ARGUMENT; state(8) = 0;"
                + "addLayer(1,0,0) = 1; addLayer(100,50,9) = 2; addLayer(1,1,1) = 3; addLayer(1,1,1) = 4;"
                + "addLayer(1,1,1) = 5; addLayer(1,1,1) = 6; addLayer(1,1,1) = 7; addLayer(1,7,8) = 8;"
                + "addLayer(1,1,1) = CAPACITY_EXCEEDED; addLayer(0,1,1) = INVALID_ARGUMENT; state(8) = 8;"
                + "ground(0,0) = 0; ground(1,0) = 50; ground(100,1) = 9; ground(101,0) = 1;"
                + "ground(105,1) = 1; ground(106,0) = 7; ground(106,1) = 8; ground(107,0) = 60; undo() = 5;"
                + "ground(106,0) = 60");
        run("promise 10").calls("addLayer(2,10,1) = 1; addLayer(3,20,2) = 2; ground(0,0) = 10;"
                + "ground(1,0) = 10; ground(1,1) = 1; ground(2,0) = 20; ground(4,0) = 20; ground(4,1) = 2;"
                + "ground(5,0) = 60; ground(5,1) = 9; ground(999,0) = 60; ground(999,1) = 9;"
                + "ground(-1,0) = INVALID_ARGUMENT; ground(1000,0) = INVALID_ARGUMENT;"
                + "ground(0,-1) = INVALID_ARGUMENT; ground(0,2) = INVALID_ARGUMENT");
    }

    private void boulders() {
        run("promise 9").calls("addBoulder(7,5,3) = 0; addBoulder(3,9,4) = 0; addBoulder(7,2,6) = 1;"
                + "addBoulder(19,200,50) = 3; addBoulder(0,1,1) = 0; boulder(0,0) = 0; boulder(1,0) = 3;"
                + "boulder(2,0) = 7; boulder(2,1) = 2; boulder(2,2) = 6; boulder(3,0) = 7; boulder(3,1) = 5;"
                + "boulder(3,2) = 3; boulder(4,0) = 19; boulder(4,1) = 200; boulder(4,2) = 50; state(7) = 5;"
                + "state(11) = 0");
        run("promise 9: wrong").calls("addBoulder(-1,1,1) = INVALID_ARGUMENT;"
                + "addBoulder(20,1,1) = INVALID_ARGUMENT; addBoulder(0,0,1) = INVALID_ARGUMENT;"
                + "addBoulder(0,201,1) = INVALID_ARGUMENT; addBoulder(0,1,0) = INVALID_ARGUMENT;"
                + "addBoulder(0,1,51) = INVALID_ARGUMENT; addBoulder(0,1,1) = 0;"
                + "addBoulder(0,1,2) = ILLEGAL_STATE; addBoulder(0,1,0) = INVALID_ARGUMENT; boulder(0,2) = 1;"
                + "undo() = 0");
        run("promise 9: ten").calls("addBoulder(9,5,1) = 0; addBoulder(9,6,1) = 1; addBoulder(9,7,1) = 2;"
                + "addBoulder(9,8,1) = 3; addBoulder(9,9,1) = 4; addBoulder(8,5,1) = 0; addBoulder(8,6,1) = 1;"
                + "addBoulder(8,7,1) = 2; addBoulder(8,8,1) = 3; addBoulder(10,1,1) = 9;"
                + "addBoulder(10,2,1) = CAPACITY_EXCEEDED; addBoulder(10,1,1) = ILLEGAL_STATE;"
                + "addBoulder(20,1,1) = INVALID_ARGUMENT; state(7) = 10; boulder(9,0) = 10;"
                + "boulder(10,0) = INVALID_ARGUMENT");
        run("promise 11").calls("boulder(0,0) = INVALID_ARGUMENT; addBoulder(4,6,8) = 0; boulder(0,0) = 4;"
                + "boulder(0,1) = 6; boulder(0,2) = 8; boulder(-1,0) = INVALID_ARGUMENT;"
                + "boulder(1,0) = INVALID_ARGUMENT; boulder(0,-1) = INVALID_ARGUMENT;"
                + "boulder(0,3) = INVALID_ARGUMENT; boulder(MOST,MOST) = INVALID_ARGUMENT");
    }

    private void state() {
        // The ballast lies in the west and in the south: both tilts sink by 1 with each step.
        run("promise 12").calls(MANY_CHANGES + "state(0) = 5; state(1) = 4; state(2) = 700; state(3) = 3;"
                + "state(4) = 7; state(5) = 7; state(6) = 57; state(7) = 1; state(8) = 1; state(9) = 100;"
                + "state(10) = 10; state(11) = 6; state(-1) = INVALID_ARGUMENT; state(12) = INVALID_ARGUMENT;"
                + "state(MOST) = INVALID_ARGUMENT; state(LEAST) = INVALID_ARGUMENT");
    }
}
