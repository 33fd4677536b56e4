/** Promises 21 to 27, and with them the terms about digging, heave and records. */
public final class WorkTest {
    private final Checks checks = new Checks("WorkTest");

    public static void main(String[] args) {
        new WorkTest().go();
    }

    private void go() {
        dig();
        digToBoulders();
        settle();
        heave();
        setBallast();
        lubricate();
        blastAtEdge();
        blastInWell();
        pump();
        records();
        checks.finish();
    }

    private Run run(String name) {
        return new Run(checks, name);
    }

    private void dig() {
        run("promise 21").calls("dig(6,2) = 2; bottom(6) = 2; dig(6,10) = 10; bottom(6) = 12;"
                + "dig(6,1) = ILLEGAL_STATE; dig(7,10) = 10; dig(7,10) = 2; bottom(7) = 12; dig(7,10) = ILLEGAL_STATE;"
                + "record(0,0) = 0; record(0,1) = 7; record(0,2) = 0; record(3,1) = 6; state(11) = 4; undo() = 3;"
                + "bottom(7) = 10; state(11) = 3");
        run("promise 21: wrong").calls("dig(0,1) = INVALID_ARGUMENT; dig(5,1) = INVALID_ARGUMENT;"
                + "dig(9,1) = INVALID_ARGUMENT; dig(-1,1) = INVALID_ARGUMENT; dig(20,1) = INVALID_ARGUMENT;"
                + "dig(MOST,1) = INVALID_ARGUMENT; dig(6,0) = INVALID_ARGUMENT; dig(6,11) = INVALID_ARGUMENT;"
                + "dig(6,LEAST) = INVALID_ARGUMENT; dig(6,MOST) = INVALID_ARGUMENT; bottom(6) = 0; state(11) = 0;"
                + "dig(6,10) = 10; dig(6,2) = 2; dig(6,11) = INVALID_ARGUMENT; undo() = 1");
        run("promise 21: below c").calls("addLayer(100,50,0) = 1; setWeight(9999) = 600; settle(30) = 30; dig(6,10) = 10;"
                + "bottom(6) = 10; dig(6,10) = 10; dig(6,10) = 10; dig(6,10) = 10; bottom(6) = 40; dig(6,10) = 2;"
                + "dig(6,10) = ILLEGAL_STATE; settle(1) = 1; bottom(6) = 42; dig(6,10) = 1; bottom(6) = 43");
    }

    private void digToBoulders() {
        run("promise 21: boulder").calls("addBoulder(6,3,5) = 0; addBoulder(6,8,5) = 1; addBoulder(7,1,5) = 2;"
                + "dig(6,10) = 3; bottom(6) = 3; dig(6,1) = ILLEGAL_STATE; dig(7,2) = 1; dig(7,1) = ILLEGAL_STATE;"
                + "dig(8,9) = 9; blast(6,5) = 0; dig(6,4) = 4; dig(6,4) = 1; bottom(6) = 8; dig(6,4) = ILLEGAL_STATE");
        run("promise 21: boulders above the bottom").calls("dig(6,5) = 5; addBoulder(6,3,9) = 0; addBoulder(6,4,9) = 1;"
                + "dig(6,2) = 2; bottom(6) = 7; addBoulder(6,7,9) = 2; dig(6,1) = ILLEGAL_STATE");
    }

    private void settle() {
        run("promise 22").calls("settle(0) = INVALID_ARGUMENT; settle(51) = INVALID_ARGUMENT;"
                + "settle(-1) = INVALID_ARGUMENT; settle(MOST) = INVALID_ARGUMENT; addLayer(60,0,0) = 1;"
                + "settle(1) = 1; state(3) = 1; settle(50) = 50; state(3) = 51; record(0,0) = 1; record(0,1) = 50;"
                + "record(0,2) = 51; record(1,1) = 1; record(1,2) = 1; settle(50) = 9; state(3) = 60; record(0,1) = 9;"
                + "record(0,2) = 60; settle(1) = ILLEGAL_STATE; settle(0) = INVALID_ARGUMENT; state(11) = 3;"
                + "undo() = 3; state(3) = 51; state(11) = 2");
        // A caisson that jams doesn't hold: it settles with 0 steps, and its bottoms heave.
        run("promise 22: jams").calls(Run.NO_RESISTANCE + "setBallast(5,99) = 0; settle(9) = 5; dig(6,10) = 10;"
                + "bottom(6) = 10; dig(7,9) = 9; settle(9) = 0; bottom(6) = 5; bottom(7) = 9; record(0,0) = 1;"
                + "record(0,1) = 0; record(0,2) = 5; state(11) = 5; undo() = 5; bottom(6) = 10");
    }

    private void heave() {
        run("heave at strength 0").calls(Run.NO_RESISTANCE + "dig(6,6) = 6; dig(7,5) = 5; settle(1) = 1; bottom(6) = 1;"
                + "bottom(7) = 5; dig(7,10) = 8; bottom(7) = 13; settle(10) = 10; bottom(7) = 13; bottom(6) = 1");
        // The strength counts at the bottom: 10 there allows 6, not the 4 at the edge.
        run("heave by the strength at the bottom").calls("addLayer(3,0,0) = 1; addLayer(50,10,0) = 2; dig(6,8) = 8;"
                + "dig(7,7) = 7; dig(8,3) = 3; settle(1) = 1; bottom(6) = 1; bottom(7) = 7; bottom(8) = 3");
        run("heave is rounded down").calls("addLayer(3,0,0) = 1; addLayer(50,9,0) = 2; dig(6,7) = 7; dig(7,6) = 6;"
                + "settle(1) = 1; bottom(6) = 1; bottom(7) = 6");
        // Holding, it refuses to settle, and nothing heaves.
        run("no heave where it holds").calls("addLayer(50,1,0) = 1; dig(6,10) = 10; setWeight(1) = 600;"
                + "settle(1) = ILLEGAL_STATE; bottom(6) = 10; setWeight(600) = 1; settle(1) = 1; bottom(6) = 1");
    }

    private void setBallast() {
        run("promise 23").calls("setBallast(0,99) = 0; setBallast(6,1) = 0; setBallast(19,50) = 0; state(6) = 150;"
                + "setBallast(0,98) = 99; setBallast(0,98) = ILLEGAL_STATE; setBallast(1,0) = ILLEGAL_STATE;"
                + "setBallast(0,0) = 98; state(6) = 51; record(0,0) = 2; record(0,1) = 0; record(2,1) = 19;"
                + "record(3,1) = 6; state(11) = 5; undo() = 4; state(6) = 149");
        run("promise 23: wrong").calls("setBallast(-1,1) = INVALID_ARGUMENT; setBallast(20,1) = INVALID_ARGUMENT;"
                + "setBallast(0,-1) = INVALID_ARGUMENT; setBallast(0,100) = INVALID_ARGUMENT;"
                + "setBallast(MOST,0) = INVALID_ARGUMENT; setBallast(20,0) = INVALID_ARGUMENT; state(6) = 0;"
                + "state(11) = 0; undo() = ILLEGAL_STATE");
    }

    private void lubricate() {
        run("promise 24").calls("lubricate(0,1) = 1; lubricate(3,1) = 2; lubricate(1,1) = 3; lubricate(2,1) = 4;"
                + "lubricate(2,1) = ILLEGAL_STATE; lubricate(3,0) = 3; lubricate(3,0) = ILLEGAL_STATE;"
                + "record(0,0) = 3; record(0,1) = 3; record(1,1) = 2; record(2,1) = 1; record(3,1) = 3; record(4,1) = 0;"
                + "state(11) = 5; undo() = 4; lubricate(3,1) = ILLEGAL_STATE");
        run("promise 24: wrong").calls("lubricate(-1,1) = INVALID_ARGUMENT; lubricate(4,1) = INVALID_ARGUMENT;"
                + "lubricate(0,2) = INVALID_ARGUMENT; lubricate(0,-1) = INVALID_ARGUMENT;"
                + "lubricate(MOST,0) = INVALID_ARGUMENT; state(11) = 0; undo() = ILLEGAL_STATE");
    }

    private void blastAtEdge() {
        run("promise 25: edge").calls("addLayer(50,0,0) = 1; addBoulder(0,1,10) = 0; addBoulder(0,2,7) = 1;"
                + "addBoulder(1,3,5) = 2; blast(0,4) = ILLEGAL_STATE; settle(1) = 1; blast(0,4) = 6; boulder(0,2) = 6;"
                + "boulder(1,2) = 7; settle(1) = 1; blast(0,5) = 1; boulder(0,1) = 1; blast(0,1) = 0; state(7) = 2;"
                + "boulder(0,1) = 2; blast(0,50) = 0; state(7) = 1; boulder(0,0) = 1; blast(0,50) = ILLEGAL_STATE;"
                + "blast(1,1) = ILLEGAL_STATE; settle(1) = 1; blast(1,4) = 1; record(0,0) = 4; record(0,1) = 1;"
                + "record(0,2) = 3; undo() = 5; boulder(0,2) = 5");
        Run ten = run("promise 25: one of ten");
        for (int cell = 0; cell < 10; cell++) {
            ten.calls("addBoulder(" + cell + ",1," + (cell + 1) + ") = " + cell);
        }
        ten.calls("addLayer(50,0,0) = 1; settle(1) = 1; blast(0,1) = 0; state(7) = 9; boulder(0,0) = 1; boulder(8,0) = 9;"
                + "boulder(8,2) = 10; boulder(9,0) = INVALID_ARGUMENT; blast(9,50) = 0; state(7) = 8; boulder(7,0) = 8;"
                + "blast(4,3) = 2; boulder(3,2) = 2; boulder(2,2) = 4; boulder(4,2) = 6; addBoulder(0,9,9) = 0;"
                + "addBoulder(19,9,9) = 9; addBoulder(18,9,9) = CAPACITY_EXCEEDED");
        run("promise 25: wrong").calls("addLayer(50,0,0) = 1; addBoulder(0,1,10) = 0; settle(1) = 1;"
                + "blast(0,0) = INVALID_ARGUMENT; blast(0,51) = INVALID_ARGUMENT; blast(-1,1) = INVALID_ARGUMENT;"
                + "blast(20,1) = INVALID_ARGUMENT; blast(MOST,0) = INVALID_ARGUMENT; blast(19,1) = ILLEGAL_STATE;"
                + "blast(6,1) = ILLEGAL_STATE; boulder(0,2) = 10; state(11) = 1; undo() = 2");
    }

    private void blastInWell() {
        run("promise 25: well").calls("addBoulder(6,3,20) = 0; blast(6,5) = ILLEGAL_STATE; dig(6,1) = 1;"
                + "blast(6,5) = ILLEGAL_STATE; dig(6,1) = 1; blast(6,5) = 15; dig(6,5) = 1; bottom(6) = 3; blast(6,5) = 10;"
                + "blast(6,9) = 1; blast(6,2) = 0; blast(6,2) = ILLEGAL_STATE; dig(6,2) = 2; record(0,0) = 0;"
                + "record(1,0) = 4; record(1,1) = 6");
        run("promise 25: above the bottom").calls("dig(6,5) = 5; addBoulder(6,4,9) = 0; blast(6,9) = ILLEGAL_STATE;"
                + "addBoulder(6,7,9) = 1; blast(6,9) = ILLEGAL_STATE; addBoulder(6,6,8) = 1; blast(6,3) = 5;"
                + "boulder(1,2) = 5; boulder(0,2) = 9; boulder(2,2) = 9; addBoulder(7,5,2) = 3; addBoulder(7,1,3) = 3;"
                + "blast(7,3) = 0; state(7) = 4; boulder(3,1) = 5");
    }

    private void pump() {
        run("promise 26").calls("pump(400) = ILLEGAL_STATE; pump(0) = 400; pump(0) = ILLEGAL_STATE; state(9) = 0;"
                + "pump(400) = 0; pump(7) = 400; record(0,0) = 5; record(0,1) = 7; record(1,1) = 400;"
                + "pump(-1) = INVALID_ARGUMENT; pump(401) = INVALID_ARGUMENT; pump(LEAST) = INVALID_ARGUMENT;"
                + "state(9) = 7; state(11) = 3; undo() = 2; state(9) = 400");
    }

    private void records() {
        run("promise 27").calls("record(0,0) = NONE; record(-1,0) = INVALID_ARGUMENT; record(0,-1) = INVALID_ARGUMENT;"
                + "record(0,3) = INVALID_ARGUMENT; record(MOST,0) = NONE; record(MOST,3) = INVALID_ARGUMENT;"
                + "record(LEAST,0) = INVALID_ARGUMENT; settle(1) = 1; pump(9) = 400; record(0,0) = 5; record(0,1) = 9;"
                + "record(0,2) = 1; record(1,0) = 1; record(1,1) = 1; record(1,2) = 1; record(2,0) = NONE");
        Run twenty = run("promise 27: the latest 20");
        for (int depth = 0; depth < 20; depth++) {
            twenty.calls("pump(" + depth + ") = " + (depth == 0 ? 400 : depth - 1) + "; state(11) = " + (depth + 1));
        }
        twenty.calls("record(19,1) = 0; record(20,1) = NONE; pump(100) = 19; state(11) = 20; record(0,1) = 100;"
                + "record(1,1) = 19; record(19,1) = 1; record(20,1) = NONE; undo() = 5; state(11) = 20;"
                + "record(0,1) = 19; record(19,1) = 0; dig(6,1) = 1; record(0,0) = 0; record(19,1) = 1");
    }
}
