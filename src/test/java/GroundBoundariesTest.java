/** Terms: the boundaries of layers, groundwater and boulders. */
public final class GroundBoundariesTest {
    private static final String SEVEN_LAYERS = "addLayer(1,1,1) = 1; addLayer(1,2,2) = 2; addLayer(1,3,3) = 3;"
            + "addLayer(1,4,4) = 4; addLayer(1,5,5) = 5; addLayer(1,6,6) = 6; addLayer(1,7,7) = 7;";
    private static final String NINE_BOULDERS = "addBoulder(0,1,1) = 0; addBoulder(0,2,2) = 1; addBoulder(0,3,3) = 2;"
            + "addBoulder(6,1,4) = 3; addBoulder(6,2,5) = 4; addBoulder(6,3,6) = 5; addBoulder(19,1,7) = 6;"
            + "addBoulder(19,2,8) = 7; addBoulder(19,3,9) = 8;";

    private final Checks checks = new Checks("GroundBoundariesTest");

    public static void main(String[] args) {
        new GroundBoundariesTest().go();
    }

    private void go() {
        numberOfLayers();
        numberOfLayersInText();
        layer();
        layerInText();
        layerAtADepth();
        belowAllLayers();
        groundwater();
        numberOfBoulders();
        numberOfBouldersInText();
        boulder();
        oneBoulderAtAPlace();
        numbersOfBoulders();
        stiffness();
        checks.finish();
    }

    private Sentence says(String words) {
        return new Sentence(checks, words);
    }

    private void numberOfLayers() {
        Sentence said = says("The ground consists of at most 8 layers from the surface downward.");
        said.holds("state(8) = 0;" + SEVEN_LAYERS + "state(8) = 7; addLayer(1,8,8) = 8; state(8) = 8;"
                + "addLayer(1,9,9) = CAPACITY_EXCEEDED; state(8) = 8; ground(0,0) = 1; ground(6,0) = 7; ground(7,0) = 8;"
                + "ground(8,0) = 60; undo() = 5; addLayer(2,9,9) = 8; ground(8,0) = 9; ground(9,0) = 60");
        said.noTrace(SEVEN_LAYERS + "addLayer(1,8,8) = 8", "addLayer(1,9,9) = CAPACITY_EXCEEDED",
                "addLayer(100,50,9) = CAPACITY_EXCEEDED", "addLayer(0,9,9) = INVALID_ARGUMENT",
                "addLayer(1,51,9) = INVALID_ARGUMENT", "addLayer(1,9,10) = INVALID_ARGUMENT");
    }

    private void numberOfLayersInText() {
        Sentence said = says("the word \"layer\" of a ninth layer, and \"boulder\" of an eleventh boulder.");
        said.run("8").type("layer 1 1 1;".repeat(8)).calls("load() = 8; state(8) = 8");
        said.noTraceOnText("layer 1 1 1;".repeat(9), SEVEN_LAYERS, "load() = -106");
        said.noTraceOnText("layer 1 1 1;".repeat(8) + "layer", SEVEN_LAYERS, "load() = -106");
        said.noTraceOnText("layer 1 1 1;".repeat(8) + "weight 5; layer 0", SEVEN_LAYERS, "load() = -116");
        // The layers that stood before don't count.
        said.run("anew").calls(SEVEN_LAYERS).type("layer 1 1 1;".repeat(8)).calls("load() = 8; state(8) = 8;"
                + "ground(7,0) = 1; ground(8,0) = 60");
    }

    private void layer() {
        Sentence said = says("A layer has a thickness from 1 to 100, a strength from 0 to 50"
                + " and a friction from 0 to 9.");
        said.holds("addLayer(1,0,0) = 1; addLayer(100,50,9) = 2; ground(0,0) = 0; ground(0,1) = 0; ground(1,0) = 50;"
                + "ground(1,1) = 9; ground(100,0) = 50; ground(101,0) = 60");
        said.noTrace("addLayer(5,5,5) = 1", "addLayer(0,5,5) = INVALID_ARGUMENT",
                "addLayer(101,5,5) = INVALID_ARGUMENT", "addLayer(5,-1,5) = INVALID_ARGUMENT",
                "addLayer(5,51,5) = INVALID_ARGUMENT", "addLayer(5,5,-1) = INVALID_ARGUMENT",
                "addLayer(5,5,10) = INVALID_ARGUMENT", "addLayer(MOST,5,5) = INVALID_ARGUMENT",
                "addLayer(5,LEAST,5) = INVALID_ARGUMENT", "addLayer(5,5,MOST) = INVALID_ARGUMENT");
    }

    private void layerInText() {
        Sentence said = says("A layer has a thickness from 1 to 100, a strength from 0 to 50"
                + " and a friction from 0 to 9.");
        said.run("text").type("layer 1 0 0;layer 100 50 9;").calls("load() = 2; ground(0,0) = 0; ground(0,1) = 0;"
                + "ground(1,0) = 50; ground(1,1) = 9; ground(100,0) = 50; ground(101,0) = 60");
        said.noTraceOnText("layer 0 0 0;", "addLayer(5,5,5) = 1", "load() = -16");
        said.noTraceOnText("layer 101 50 9;", "addLayer(5,5,5) = 1", "load() = -16");
        said.noTraceOnText("layer 100 51 9;", "addLayer(5,5,5) = 1", "load() = -20");
        said.noTraceOnText("layer 100 50 10;", "addLayer(5,5,5) = 1", "load() = -23");
    }

    private void layerAtADepth() {
        Sentence said = says("At the depth z, counted from 0, lies the first layer for which the thicknesses of it"
                + " and of all layers above it sum to more than z;");
        said.holds("addLayer(3,10,1) = 1; addLayer(1,20,2) = 2; addLayer(5,30,3) = 3; ground(0,0) = 10; ground(2,0) = 10;"
                + "ground(2,1) = 1; ground(3,0) = 20; ground(3,1) = 2; ground(4,0) = 30; ground(4,1) = 3;"
                + "ground(8,0) = 30; ground(8,1) = 3; ground(9,0) = 60; ground(9,1) = 9");
        Run eight = said.run("8 of 100");
        for (int i = 1; i <= 8; i++) {
            eight.calls("addLayer(100," + i + "," + i + ") = " + i);
        }
        for (int i = 1; i <= 8; i++) {
            eight.calls("ground(" + 100 * (i - 1) + ",0) = " + i + "; ground(" + (100 * i - 1) + ",1) = " + i);
        }
        eight.calls("ground(800,0) = 60; ground(800,1) = 9; ground(999,0) = 60; ground(999,1) = 9");
    }

    private void belowAllLayers() {
        Sentence said = says("below all layers, the strength is 60 and the friction is 9"
                + " (so it is without layers, as at first).");
        said.holds("ground(0,0) = 60; ground(0,1) = 9; ground(999,0) = 60; ground(999,1) = 9; edge(0,1) = 120;"
                + "settle(1) = 1; edge(0,1) = 180; edge(0,2) = 36");
        said.holds("addLayer(1,0,0) = 1; ground(0,0) = 0; ground(0,1) = 0; ground(1,0) = 60; ground(1,1) = 9;"
                + "settle(1) = 1; edge(0,2) = 0; edge(0,1) = 180; settle(1) = ILLEGAL_STATE; setWeight(9999) = 600;"
                + "settle(1) = 1; edge(0,2) = 36; edge(0,1) = 240");
    }

    private void groundwater() {
        Sentence said = says("The groundwater begins at a depth w, 0 to 400 (at first 400).");
        said.holds("state(9) = 400; pump(0) = 400; state(9) = 0; pump(400) = 0; state(9) = 400; pump(399) = 400;"
                + "pump(1) = 399; state(9) = 1");
        said.noTrace("pump(8) = 400", "pump(-1) = INVALID_ARGUMENT", "pump(401) = INVALID_ARGUMENT",
                "pump(LEAST) = INVALID_ARGUMENT", "pump(MOST) = INVALID_ARGUMENT", "pump(8) = ILLEGAL_STATE");
        said.noTrace("", "pump(400) = ILLEGAL_STATE", "pump(401) = INVALID_ARGUMENT");
        said.noTrace("pump(0) = 400", "pump(0) = ILLEGAL_STATE", "pump(-1) = INVALID_ARGUMENT");
        said.run("text").type("water 0;").calls("load() = 1; state(9) = 0");
        said.run("text").type("water 400;").calls("load() = 1; state(9) = 400");
        said.noTraceOnText("water 401;", "pump(8) = 400", "load() = -16");
    }

    private void numberOfBoulders() {
        Sentence said = says("There are at most 10 boulders.");
        said.holds("state(7) = 0;" + NINE_BOULDERS + "state(7) = 9; addBoulder(7,1,1) = 6; state(7) = 10;"
                + "addBoulder(7,2,1) = CAPACITY_EXCEEDED; state(7) = 10; boulder(9,2) = 9; boulder(10,2) = INVALID_ARGUMENT;"
                + "blast(7,1) = 0; state(7) = 9; addBoulder(7,2,1) = 6; addBoulder(7,1,1) = CAPACITY_EXCEEDED");
        said.noTrace(NINE_BOULDERS + "addBoulder(7,1,1) = 6", "addBoulder(7,2,1) = CAPACITY_EXCEEDED",
                "addBoulder(0,4,1) = CAPACITY_EXCEEDED", "addBoulder(19,200,50) = CAPACITY_EXCEEDED",
                "addBoulder(7,1,1) = ILLEGAL_STATE", "addBoulder(20,1,1) = INVALID_ARGUMENT",
                "addBoulder(7,1,51) = INVALID_ARGUMENT", "addBoulder(7,201,1) = INVALID_ARGUMENT");
    }

    private void numberOfBouldersInText() {
        Sentence said = says("the word \"layer\" of a ninth layer, and \"boulder\" of an eleventh boulder.");
        StringBuilder ten = new StringBuilder();
        for (int i = 0; i < 10; i++) {
            ten.append("boulder").append(i % 5).append(' ').append(i / 5).append(" 1 1;");
        }
        said.run("10").type(ten.toString()).calls("load() = 10; state(7) = 10; boulder(9,0) = 9");
        said.noTraceOnText(ten + "boulder0 0 2 1;", "addBoulder(7,1,1) = 0", "load() = -160");
        said.noTraceOnText(ten + "boulder", "addBoulder(7,1,1) = 0", "load() = -160");
        said.noTraceOnText(ten + "water 5; boulder 9", "addBoulder(7,1,1) = 0", "load() = -169");
        said.run("anew").calls(NINE_BOULDERS).type(ten.toString()).calls("load() = 10; state(7) = 10");
    }

    private void boulder() {
        Sentence said = says("A boulder lies in a cell, at a depth from 1 to 200, and has a hardness from 1 to 50.");
        said.holds("addBoulder(0,1,1) = 0; addBoulder(19,200,50) = 1; addBoulder(6,200,1) = 1; addBoulder(7,1,50) = 2;"
                + "boulder(0,0) = 0; boulder(0,1) = 1; boulder(0,2) = 1; boulder(3,0) = 19; boulder(3,1) = 200;"
                + "boulder(3,2) = 50");
        said.noTrace("addBoulder(6,9,9) = 0", "addBoulder(-1,1,1) = INVALID_ARGUMENT",
                "addBoulder(20,1,1) = INVALID_ARGUMENT", "addBoulder(0,0,1) = INVALID_ARGUMENT",
                "addBoulder(0,201,1) = INVALID_ARGUMENT", "addBoulder(0,1,0) = INVALID_ARGUMENT",
                "addBoulder(0,1,51) = INVALID_ARGUMENT", "addBoulder(MOST,1,1) = INVALID_ARGUMENT",
                "addBoulder(0,LEAST,1) = INVALID_ARGUMENT", "addBoulder(0,1,MOST) = INVALID_ARGUMENT");
        said.run("text").type("boulder 0 0 1 1;boulder 4 3 200 50;").calls("load() = 2; boulder(0,1) = 1;"
                + "boulder(0,2) = 1; boulder(1,0) = 19; boulder(1,1) = 200; boulder(1,2) = 50");
        said.noTraceOnText("boulder 0 0 0 1;", "addBoulder(6,9,9) = 0", "load() = -22");
        said.noTraceOnText("boulder 0 0 201 1;", "addBoulder(6,9,9) = 0", "load() = -22");
        said.noTraceOnText("boulder 0 0 1 0;", "addBoulder(6,9,9) = 0", "load() = -24");
        said.noTraceOnText("boulder 0 0 1 51;", "addBoulder(6,9,9) = 0", "load() = -24");
    }

    private void oneBoulderAtAPlace() {
        Sentence said = says("There is at most one boulder in a cell at the same depth.");
        said.noTrace("addBoulder(6,5,3) = 0", "addBoulder(6,5,3) = ILLEGAL_STATE", "addBoulder(6,5,4) = ILLEGAL_STATE",
                "addBoulder(6,5,0) = INVALID_ARGUMENT");
        said.holds("addBoulder(6,5,3) = 0; addBoulder(6,4,3) = 0; addBoulder(6,6,3) = 2; addBoulder(5,5,3) = 0;"
                + "addBoulder(7,5,3) = 4; addBoulder(6,5,3) = ILLEGAL_STATE; state(7) = 5");
        // Where one was blasted away, or was undone, there is room again.
        said.holds("addBoulder(6,1,3) = 0; blast(6,2) = 1; addBoulder(6,1,3) = ILLEGAL_STATE; blast(6,1) = 0;"
                + "addBoulder(6,1,9) = 0; undo() = 3; addBoulder(6,1,8) = 0; boulder(0,2) = 8");
        said.run("text").type("boulder 1 1 5 3;boulder 1 1 4 3;boulder 2 1 5 3;boulder 1 2 5 3;").calls("load() = 4");
        said.noTraceOnText("boulder 1 1 5 3;boulder 1 1 5 4;", "addBoulder(6,5,3) = 0", "load() = -38");
        said.run("anew").calls("addBoulder(6,5,3) = 0").type("boulder 1 1 5 4;").calls("load() = 1; boulder(0,2) = 4");
    }

    private void numbersOfBoulders() {
        Sentence said = says("The boulders are numbered from 0 by ascending cells, and in the same cell"
                + " by ascending depths.");
        said.holds("addBoulder(7,9,1) = 0; addBoulder(7,10,2) = 1; addBoulder(7,8,3) = 0; addBoulder(8,1,4) = 3;"
                + "addBoulder(6,200,5) = 0; boulder(0,2) = 5; boulder(1,2) = 3; boulder(2,2) = 1; boulder(3,2) = 2;"
                + "boulder(4,2) = 4; boulder(5,2) = INVALID_ARGUMENT; boulder(-1,2) = INVALID_ARGUMENT");
        // Where one is removed, those behind it move up, and their cells and depths with them.
        said.run("removed").calls(NINE_BOULDERS + "blast(6,4) = 0; state(7) = 8; boulder(2,2) = 3; boulder(3,0) = 6; boulder(3,1) = 2;"
                + "boulder(3,2) = 5; boulder(4,1) = 3; boulder(5,0) = 19; boulder(5,1) = 1; boulder(5,2) = 7; boulder(7,0) = 19;"
                + "boulder(7,1) = 3; boulder(7,2) = 9; boulder(8,0) = INVALID_ARGUMENT; addBoulder(6,1,50) = 3; boulder(8,2) = 9");
        said.run("text").type("boulder 2 1 9 1;boulder 2 1 8 2;boulder 1 1 200 3;boulder 1 2 1 4;")
                .calls("load() = 4; boulder(0,2) = 3; boulder(1,2) = 2; boulder(2,2) = 1; boulder(3,2) = 4");
    }

    private void stiffness() {
        Sentence said = says("(The stiffness is 0 to 9999, at first 400.)");
        said.holds("state(10) = 400; setStiffness(0) = 400; state(10) = 0; setStiffness(9999) = 0; state(10) = 9999");
        said.noTrace("setStiffness(5) = 400", "setStiffness(-1) = INVALID_ARGUMENT",
                "setStiffness(10000) = INVALID_ARGUMENT", "setStiffness(LEAST) = INVALID_ARGUMENT",
                "setStiffness(MOST) = INVALID_ARGUMENT");
        said.run("text").type("stiff 0;").calls("load() = 1; state(10) = 0");
        said.run("text").type("stiff 9999;").calls("load() = 1; state(10) = 9999");
        said.noTraceOnText("stiff 10000;", "setStiffness(5) = 400", "load() = -16");
    }
}
