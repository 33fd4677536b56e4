/** Terms: the boundaries of size, cells, position, tilt, weight, ballast, lubrication and bottoms. */
public final class CaissonBoundariesTest {
    private final Checks checks = new Checks("CaissonBoundariesTest");

    public static void main(String[] args) {
        new CaissonBoundariesTest().go();
    }

    private void go() {
        size();
        numbersOfCells();
        edgesAndWells();
        sides();
        wellsBeside();
        depth();
        tilts();
        tiltsTurnBack();
        depthOfTheEdge();
        depthOfTheEdgeByBothTilts();
        deepestEdge();
        weight();
        ballast();
        lubrication();
        bottoms();
        checks.finish();
    }

    private Sentence says(String words) {
        return new Sentence(checks, words);
    }

    private static int clamp(int value, int low, int high) {
        return Math.max(low, Math.min(high, value));
    }

    private static String resize(int columns, int rows) {
        return "resize(" + columns + "," + rows + ") = " + (columns - 2) * (rows - 2) + ";";
    }

    private void size() {
        Sentence said = says("The caisson has W columns and L rows of cells, 3 to 7 each (at first 5 and 4).");
        said.holds("state(0) = 5; state(1) = 4");
        for (int columns = 3; columns <= 7; columns++) {
            for (int rows = 3; rows <= 7; rows++) {
                said.holds(resize(columns, rows) + "state(0) = " + columns + "; state(1) = " + rows);
            }
        }
        said.noTrace("dig(6,1) = 1", "resize(2,3) = INVALID_ARGUMENT", "resize(3,2) = INVALID_ARGUMENT",
                "resize(8,7) = INVALID_ARGUMENT", "resize(7,8) = INVALID_ARGUMENT",
                "resize(0,0) = INVALID_ARGUMENT", "resize(-3,3) = INVALID_ARGUMENT");
        said.run("plan").type("plan 3 3;").calls("load() = 1; state(0) = 3; state(1) = 3");
        said.run("plan").type("plan 7 7;").calls("load() = 1; state(0) = 7; state(1) = 7");
        said.noTraceOnText("plan 2 3;", "dig(6,1) = 1", "load() = -15");
        said.noTraceOnText("plan 3 2;", "dig(6,1) = 1", "load() = -17");
        said.noTraceOnText("plan 8 7;", "dig(6,1) = 1", "load() = -15");
        said.noTraceOnText("plan 7 8;", "dig(6,1) = 1", "load() = -17");
    }

    private void numbersOfCells() {
        Sentence said = says("The cell (x, y) has the number y * W + x; x is counted to the east, y to the north.");
        for (int columns = 3; columns <= 7; columns++) {
            for (int rows = 3; rows <= 7; rows++) {
                int last = columns * rows - 1;
                int beyond = last + 1;
                said.holds(resize(columns, rows) + "setBallast(0,1) = 0; setBallast(" + last + ",1) = 0;"
                        + "setBallast(" + beyond + ",1) = INVALID_ARGUMENT; setBallast(-1,1) = INVALID_ARGUMENT;"
                        + "addBoulder(0,1,1) = 0; addBoulder(" + last + ",1,1) = 1;"
                        + "addBoulder(" + beyond + ",1,1) = INVALID_ARGUMENT; addBoulder(-1,1,1) = INVALID_ARGUMENT;"
                        + "edge(" + last + ",0) = 0; edge(" + beyond + ",0) = INVALID_ARGUMENT;"
                        + "blast(" + last + ",1) = ILLEGAL_STATE; blast(" + beyond + ",1) = INVALID_ARGUMENT;"
                        + "bottom(" + beyond + ") = INVALID_ARGUMENT; dig(" + beyond + ",1) = INVALID_ARGUMENT");
            }
        }
        // Ballast in the east pulls a up, in the north b.
        said.holds("setBallast(9,1) = 0; moment(0) = -16; moment(1) = 4");
        said.holds("setBallast(17,1) = 0; moment(0) = 0; moment(1) = -12");
        said.run("text").type("plan 4 6;boulder 3 5 1 1;boulder 1 2 1 1;")
                .calls("load() = 3; boulder(0,0) = 9; boulder(1,0) = 23");
    }

    private void edgesAndWells() {
        Sentence said = says("The cells with x = 0, x = W - 1, y = 0 or y = L - 1 are edge cells;"
                + " all others are wells.");
        for (int columns = 3; columns <= 7; columns++) {
            for (int rows = 3; rows <= 7; rows++) {
                Run run = said.run(columns + " x " + rows).calls(resize(columns, rows));
                for (int cell = 0; cell < columns * rows; cell++) {
                    int x = cell % columns;
                    int y = cell / columns;
                    boolean well = x >= 1 && x <= columns - 2 && y >= 1 && y <= rows - 2;
                    run.calls("bottom(" + cell + ") = " + (well ? "0" : "INVALID_ARGUMENT")
                            + "; edge(" + cell + ",0) = " + (well ? "INVALID_ARGUMENT" : "0")
                            + "; dig(" + cell + ",1) = " + (well ? "1" : "INVALID_ARGUMENT"));
                }
            }
        }
    }

    private void sides() {
        Sentence said = says("The sides are 0 west (x = 0), 1 east, 2 south (y = 0) and 3 north.");
        for (int columns = 3; columns <= 7; columns += 2) {
            for (int rows = 4; rows <= 6; rows++) {
                for (int side = 0; side <= 3; side++) {
                    Run run = said.run(columns + " x " + rows).calls(resize(columns, rows)
                            + "addLayer(9,0,1) = 1; settle(1) = 1; lubricate(" + side + ",1) = 1;");
                    int sum = 0;
                    for (int cell = 0; cell < columns * rows; cell++) {
                        int x = cell % columns;
                        int y = cell / columns;
                        boolean on = new boolean[] {x == 0, x == columns - 1, y == 0, y == rows - 1}[side];
                        boolean well = x > 0 && x < columns - 1 && y > 0 && y < rows - 1;
                        sum += on ? 1 : 0;
                        run.calls("edge(" + cell + ",2) = " + (well ? "INVALID_ARGUMENT" : on ? "1" : "4"));
                    }
                    run.calls("sideResistance(" + side + ") = " + sum);
                }
            }
        }
        said.noTrace("", "sideResistance(-1) = INVALID_ARGUMENT", "sideResistance(4) = INVALID_ARGUMENT",
                "lubricate(-1,1) = INVALID_ARGUMENT", "lubricate(4,1) = INVALID_ARGUMENT");
    }

    private void wellsBeside() {
        Sentence said = says("The well beside an edge cell is the well with the column nearest to x"
                + " and the row nearest to y.");
        for (int columns = 3; columns <= 7; columns++) {
            for (int rows = 3; rows <= 7; rows++) {
                Run run = said.run(columns + " x " + rows).calls(resize(columns, rows));
                for (int cell = 0; cell < columns * rows; cell++) {
                    int x = clamp(cell % columns, 1, columns - 2);
                    int y = clamp(cell / columns, 1, rows - 2);
                    int beside = y * columns + x;
                    run.calls("edge(" + cell + ",4) = " + (beside == cell ? "INVALID_ARGUMENT" : "" + beside));
                }
            }
        }
    }

    private void depth() {
        Sentence said = says("The position of the caisson consists of a depth c, 0 to 200, and of two tilts"
                + " a and b, -5 to 5 each (at first all are 0).");
        said.holds("state(3) = 0; state(4) = 10; state(5) = 10");
        said.holds(Run.NO_RESISTANCE + "settle(50) = 50; settle(50) = 50; settle(50) = 50; settle(49) = 49;"
                + "state(3) = 199; nextStep() = 1; wouldSettle(2,0) = 1; settle(2) = 1; state(3) = 200; nextStep() = 0;"
                + "wouldSettle(1,0) = 0");
        said.noTrace(Run.NO_RESISTANCE + "settle(50) = 50; settle(50) = 50; settle(50) = 50; settle(50) = 50;"
                + "dig(6,10) = 10; state(3) = 200;", "settle(1) = ILLEGAL_STATE", "settle(50) = ILLEGAL_STATE",
                "nextStep() = 0", "makePlan(200,1) = ILLEGAL_STATE");
        said.run("by a plan").calls(Run.NO_RESISTANCE + "makePlan(200,1) = 10; carryOut(10) = 200; carryOut(10) = 200;"
                + "state(3) = 200");
    }

    /** Ballast in the middle of a side tilts by 1 with each step, until the tilt would leave its range. */
    private void tilts() {
        Sentence said = says("If a or b would be below -5 or above 5, the caisson jams: the step is not made.");
        int[] cells = {5, 9, 2, 17};
        for (int side = 0; side <= 3; side++) {
            int which = side < 2 ? 4 : 5;
            int sign = side % 2 == 0 ? -1 : 1;
            String before = Run.NO_RESISTANCE + "setBallast(" + cells[side] + ",99) = 0; settle(4) = 4;"
                    + "state(" + which + ") = " + (10 + 4 * sign) + "; nextStep() = 1; wouldSettle(1,3) = 1;"
                    + "settle(1) = 1; state(" + which + ") = " + (10 + 5 * sign) + "; state(3) = 5;";
            said.run("side " + side).calls(before + "nextStep() = 2; wouldSettle(9,0) = 0; wouldSettle(9,3) = 1;"
                    + "settle(9) = 0; state(3) = 5; state(" + which + ") = " + (10 + 5 * sign)
                    + "; state(" + (9 - which) + ") = 10");
            said.run("in one go, side " + side).calls(Run.NO_RESISTANCE + "setBallast(" + cells[side] + ",99) = 0;"
                    + "settle(50) = 5; state(3) = 5; state(" + which + ") = " + (10 + 5 * sign));
        }
        // The other tilt could change, but the step isn't made: neither it nor c changes.
        said.run("a jams").calls(Run.NO_RESISTANCE + "setBallast(5,99) = 0; settle(50) = 5; setBallast(2,99) = 0;"
                + "moment(1) = 1584; nextStep() = 2; settle(9) = 0; state(3) = 5; state(4) = 5; state(5) = 10");
        said.run("b jams").calls(Run.NO_RESISTANCE + "setBallast(17,99) = 0; settle(50) = 5; setBallast(9,99) = 0;"
                + "moment(0) = -1584; nextStep() = 2; settle(9) = 0; state(3) = 5; state(4) = 10; state(5) = 15");
    }

    private void tiltsTurnBack() {
        Sentence said = says("If a or b would be below -5 or above 5, the caisson jams: the step is not made.");
        said.run("from west to east").calls(Run.NO_RESISTANCE + "setBallast(5,99) = 0; settle(50) = 5; state(4) = 5;"
                + "setBallast(5,0) = 99; nextStep() = 1; settle(1) = 1; state(4) = 5; setBallast(9,99) = 0;"
                + "nextStep() = 1; settle(50) = 10; state(4) = 15; nextStep() = 2; state(3) = 16");
        said.run("from north to south").calls(Run.NO_RESISTANCE + "setBallast(17,99) = 0; settle(50) = 5; state(5) = 15;"
                + "setBallast(17,0) = 99; nextStep() = 1; settle(1) = 1; state(5) = 15; setBallast(2,99) = 0;"
                + "nextStep() = 1; settle(50) = 10; state(5) = 5; nextStep() = 2; state(3) = 16");
    }

    private void depthOfTheEdge() {
        Sentence said = says("The depth of the edge at the edge cell (x, y) is"
                + " c + (a * (2 * x - W + 1) + b * (2 * y - L + 1)) / 2, rounded down, but at least 0.");
        said.holds("edge(0,0) = 0; edge(19,0) = 0; settle(1) = 1; edge(0,0) = 1; edge(19,0) = 1");
        // b = -1: to c come 1.5, 0.5, -0.5 and -1.5 from south to north.
        said.run("b = -1").calls(Run.NO_RESISTANCE + "setBallast(2,99) = 0; settle(1) = 1; state(5) = 9; state(4) = 10;"
                + "edge(0,0) = 2; edge(5,0) = 1; edge(10,0) = 0; edge(15,0) = 0; setBallast(2,0) = 99; settle(1) = 1;"
                + "edge(0,0) = 3; edge(5,0) = 2; edge(10,0) = 1; edge(15,0) = 0; settle(1) = 1; state(5) = 9;"
                + "edge(0,0) = 4; edge(5,0) = 3; edge(10,0) = 2; edge(15,0) = 1");
        said.run("b = 1").calls(Run.NO_RESISTANCE + "setBallast(17,99) = 0; settle(1) = 1; state(5) = 11;"
                + "edge(4,0) = 0; edge(9,0) = 0; edge(14,0) = 1; edge(19,0) = 2; setBallast(17,0) = 99; settle(1) = 1;"
                + "edge(4,0) = 0; edge(9,0) = 1; edge(14,0) = 2; edge(19,0) = 3; settle(1) = 1;"
                + "edge(4,0) = 1; edge(9,0) = 2; edge(14,0) = 3; edge(19,0) = 4");
        // a = -1: 2, 1, 0, -1 and -2 from west to east.
        said.run("a = -1").calls(Run.NO_RESISTANCE + "setBallast(5,99) = 0; settle(1) = 1; state(4) = 9; state(5) = 10;"
                + "edge(0,0) = 3; edge(1,0) = 2; edge(2,0) = 1; edge(3,0) = 0; edge(4,0) = 0; setBallast(5,0) = 99;"
                + "settle(1) = 1; edge(0,0) = 4; edge(3,0) = 1; edge(4,0) = 0; settle(1) = 1; edge(3,0) = 2; edge(4,0) = 1");
        said.run("a = 1").calls(Run.NO_RESISTANCE + "setBallast(9,99) = 0; settle(1) = 1; state(4) = 11;"
                + "edge(0,0) = 0; edge(1,0) = 0; edge(2,0) = 1; edge(3,0) = 2; edge(4,0) = 3");
    }

    private void depthOfTheEdgeByBothTilts() {
        Sentence said = says("The depth of the edge at the edge cell (x, y) is"
                + " c + (a * (2 * x - W + 1) + b * (2 * y - L + 1)) / 2, rounded down, but at least 0.");
        // The sum of both is halved, not each of them: 3/2 + 3/2 are 3, and -1/2 - 1/2 are -1.
        said.run("4 x 4").calls(Run.NO_RESISTANCE + "resize(4,4) = 4; settle(10) = 10; setBallast(0,99) = 0;"
                + "settle(1) = 1; state(4) = 9; state(5) = 9; state(3) = 11; edge(0,0) = 14; edge(1,0) = 13;"
                + "edge(2,0) = 12; edge(3,0) = 11; edge(4,0) = 13; edge(7,0) = 10; edge(8,0) = 12; edge(11,0) = 9;"
                + "edge(12,0) = 11; edge(13,0) = 10; edge(14,0) = 9; edge(15,0) = 8");
        // Odd sums: (4 + 3) / 2 and (-4 - 3) / 2 are rounded down.
        said.run("5 x 4").calls(Run.NO_RESISTANCE + "settle(10) = 10; setBallast(0,99) = 0; settle(1) = 1; state(4) = 9;"
                + "state(5) = 9; edge(0,0) = 14; edge(1,0) = 13; edge(2,0) = 12; edge(4,0) = 10; edge(5,0) = 13;"
                + "edge(9,0) = 9; edge(10,0) = 12; edge(14,0) = 8; edge(15,0) = 11; edge(17,0) = 9; edge(19,0) = 7");
    }

    private void deepestEdge() {
        Sentence said = says("The depth of the edge at the edge cell (x, y) is"
                + " c + (a * (2 * x - W + 1) + b * (2 * y - L + 1)) / 2, rounded down, but at least 0.");
        said.run("the deepest one").calls(Run.NO_RESISTANCE + "resize(7,7) = 25; settle(50) = 50; settle(50) = 50;"
                + "settle(50) = 50; settle(45) = 45; setBallast(48,99) = 0; settle(50) = 5; state(3) = 200;"
                + "state(4) = 15; state(5) = 15; nextStep() = 0; edge(48,0) = 230; edge(0,0) = 170; edge(6,0) = 200;"
                + "edge(48,1) = 0; edge(48,2) = 0; pump(0) = 400; edge(48,3) = 230; edge(0,3) = 170");
    }

    private void weight() {
        Sentence said = says("The caisson has a weight G, 1 to 9999 (at first 600).");
        said.holds("state(2) = 600; setWeight(1) = 600; state(2) = 1; setWeight(9999) = 1; state(2) = 9999");
        said.noTrace("setWeight(7) = 600; dig(6,1) = 1", "setWeight(0) = INVALID_ARGUMENT",
                "setWeight(10000) = INVALID_ARGUMENT", "setWeight(-1) = INVALID_ARGUMENT",
                "setWeight(LEAST) = INVALID_ARGUMENT", "setWeight(MOST) = INVALID_ARGUMENT");
        said.run("text").type("weight 1;").calls("load() = 1; state(2) = 1");
        said.run("text").type("weight 9999;").calls("load() = 1; state(2) = 9999");
        said.noTraceOnText("weight 0;", "setWeight(7) = 600", "load() = -17");
        said.noTraceOnText("weight 10000;", "setWeight(7) = 600", "load() = -17");
    }

    private void ballast() {
        Sentence said = says("Each cell, also an edge cell, can carry ballast from 0 to 99 (at first 0).");
        Run first = said.run("at first");
        for (int cell = 0; cell < 20; cell++) {
            first.calls("setBallast(" + cell + ",0) = ILLEGAL_STATE; setBallast(" + cell + ",1) = 0;"
                    + "setBallast(" + cell + ",99) = 1; state(6) = " + 99 * (cell + 1));
        }
        said.holds("setBallast(0,99) = 0; setBallast(0,0) = 99; state(6) = 0; setBallast(6,99) = 0; surplus() = 1116");
        said.noTrace("setBallast(6,99) = 0; setBallast(0,5) = 0", "setBallast(6,100) = INVALID_ARGUMENT",
                "setBallast(6,-1) = INVALID_ARGUMENT", "setBallast(0,100) = INVALID_ARGUMENT",
                "setBallast(0,-1) = INVALID_ARGUMENT", "setBallast(0,MOST) = INVALID_ARGUMENT",
                "setBallast(6,99) = ILLEGAL_STATE", "setBallast(1,0) = ILLEGAL_STATE");
        Run most = said.run("49 cells").calls("resize(7,7) = 25");
        for (int cell = 0; cell < 49; cell++) {
            most.calls("setBallast(" + cell + ",99) = 0");
        }
        most.calls("state(6) = 4851; moment(0) = 0; moment(1) = 0; surplus() = 18924");
    }

    private void lubrication() {
        Sentence said = says("Each side can be lubricated (at first none is).");
        said.holds("lubricate(0,0) = ILLEGAL_STATE; lubricate(1,0) = ILLEGAL_STATE; lubricate(2,0) = ILLEGAL_STATE;"
                + "lubricate(3,0) = ILLEGAL_STATE; lubricate(0,1) = 1; lubricate(1,1) = 2; lubricate(2,1) = 3;"
                + "lubricate(3,1) = 4; lubricate(0,0) = 3; lubricate(1,0) = 2; lubricate(2,0) = 1; lubricate(3,0) = 0");
    }

    private void bottoms() {
        Sentence said = says("Each well has a bottom at a depth, 0 at first.");
        said.holds("bottom(6) = 0; bottom(7) = 0; bottom(8) = 0; bottom(11) = 0; bottom(12) = 0; bottom(13) = 0;"
                + "dig(13,1) = 1; bottom(13) = 1; bottom(12) = 0; bottom(6) = 0");
        Run all = said.run("all of 25").calls("resize(7,7) = 25");
        for (int y = 1; y <= 5; y++) {
            for (int x = 1; x <= 5; x++) {
                all.calls("dig(" + (7 * y + x) + "," + (x + y) + ") = " + (x + y));
            }
        }
        for (int y = 1; y <= 5; y++) {
            for (int x = 1; x <= 5; x++) {
                all.calls("bottom(" + (7 * y + x) + ") = " + (x + y));
            }
        }
    }
}
