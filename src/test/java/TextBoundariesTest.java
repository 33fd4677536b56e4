/** Terms and promises 2 to 4: the boundaries of the text, its tokens, its numbers and its error position. */
public final class TextBoundariesTest {
    private static final String[][] ITEMS = {{"plan", "3", "4", ";"}, {"weight", "5", ";"}, {"water", "6", ";"},
        {"stiff", "7", ";"}, {"layer", "1", "2", "3", ";"}, {"boulder", "1", "2", "3", "4", ";"}};
    /** What stands before a number, what stands behind it, and its range. */
    private static final Object[][] NUMBERS = {{"plan ", " 3;", 3, 7}, {"plan 3 ", ";", 3, 7}, {"weight ", ";", 1, 9999},
        {"water ", ";", 0, 400}, {"stiff ", ";", 0, 9999}, {"layer ", " 1 1;", 1, 100}, {"layer 1 ", " 1;", 0, 50},
        {"layer 1 1 ", ";", 0, 9}, {"boulder ", " 1 1 1;", 0, 4}, {"boulder 1 ", " 1 1;", 0, 3},
        {"boulder 1 1 ", " 1;", 1, 200}, {"boulder 1 1 1 ", ";", 1, 50}};
    /** Everything is other than at first, so that it would be seen if a text that has an error changed something. */
    private static final String BEFORE = "addLayer(30,2,0) = 1; setWeight(700) = 600; addBoulder(1,9,3) = 0; dig(6,4) = 4;"
            + "lubricate(2,1) = 1; pump(100) = 400; makePlan(3,2) = 1; settle(3) = 3;";

    private final Checks checks = new Checks("TextBoundariesTest");

    public static void main(String[] args) {
        new TextBoundariesTest().go();
    }

    private void go() {
        length();
        characters();
        clearing();
        emptySequences();
        words();
        everyCharacter();
        spaces();
        spacesAreNecessary();
        numbers();
        digits();
        planIsTheFirst();
        theLastOneCounts();
        wrongTokens();
        theFirstError();
        secondBoulder();
        placesByThePlan();
        endInsideOfAnItem();
        everyEnd();
        fullTexts();
        textIsKeptOrEmptied();
        asAtFirst();
        checks.finish();
    }

    private Sentence says(String words) {
        return new Sentence(checks, words);
    }

    /** The answer of load(), and whether the text is kept. */
    private void loads(Sentence said, String text, int answer) {
        said.run(text).type(text).calls("load() = " + answer + "; clearText() = " + (answer < 0 ? text.length() : 0));
    }

    private void length() {
        Sentence said = says("A caisson and its ground can be read from a text of at most 200 characters, which is built one"
                + " character at a time:");
        said.run("199").type(" ".repeat(199)).calls("appendCharacter(32) = 200; appendCharacter(32) = CAPACITY_EXCEEDED;"
                + "clearText() = 200; appendCharacter(32) = 1");
        said.noTraceOnText(" ".repeat(191) + "weight 5;", "dig(6,1) = 1", "appendCharacter(32) = CAPACITY_EXCEEDED",
                "appendCharacter(59) = CAPACITY_EXCEEDED", "appendCharacter(0) = CAPACITY_EXCEEDED",
                "appendCharacter(255) = CAPACITY_EXCEEDED", "appendCharacter(256) = INVALID_ARGUMENT",
                "appendCharacter(-1) = INVALID_ARGUMENT");
    }

    private void characters() {
        Sentence said = says("Returns the new length of the text; INVALID_ARGUMENT if character is out of range;"
                + " CAPACITY_EXCEEDED if the text has 200 characters.");
        said.holds("appendCharacter(0) = 1; appendCharacter(255) = 2; appendCharacter(119) = 3; load() = -10; clearText() = 3");
        said.noTraceOnText("weight 5;", "dig(6,1) = 1", "appendCharacter(-1) = INVALID_ARGUMENT",
                "appendCharacter(256) = INVALID_ARGUMENT", "appendCharacter(LEAST) = INVALID_ARGUMENT",
                "appendCharacter(MOST) = INVALID_ARGUMENT", "appendCharacter(288) = INVALID_ARGUMENT");
        says("- `character`: character code, 0 to 255").noTrace("", "appendCharacter(-1) = INVALID_ARGUMENT",
                "appendCharacter(256) = INVALID_ARGUMENT");
    }

    private void clearing() {
        Sentence said = says("Returns the previous length of the text.");
        said.holds("clearText() = 0; clearText() = 0; appendCharacter(59) = 1; clearText() = 1; clearText() = 0; load() = 0");
        said.run("200").type(";".repeat(200)).calls("clearText() = 200; load() = 0");
        said.noTrace("dig(6,1) = 1", "clearText() = 0");
    }

    private void emptySequences() {
        Sentence said = says("a sequence of items, perhaps empty, each of which ends with \";\":");
        loads(said, "", 0);
        loads(said, " ", 0);
        loads(said, " ".repeat(200), 0);
        loads(said, "weight 5;", 1);
        loads(said, "weight 5", -18);
        loads(said, "weight 5;weight 6;", 2);
        loads(said, "weight 5;weight 6", -27);
        loads(said, "weight 5 weight 6;", -19);
        loads(said, ";", -10);
        loads(said, "weight 5;;", -19);
        said.run("28 items").type("stiff1;".repeat(28)).calls("load() = 28");
    }

    private void words() {
        Sentence said = says("Tokens are words (longest sequences of letters a to z), numbers (longest sequences of digits)"
                + " and \";\".");
        for (String[] item : ITEMS) {
            String word = item[0];
            String rest = String.join(" ", item).substring(word.length());
            loads(said, word + rest, 1);
            loads(said, word.substring(0, word.length() - 1) + rest, -10);
            loads(said, word.substring(1) + rest, -10);
            loads(said, word + word.charAt(word.length() - 1) + rest, -10);
            loads(said, "a" + word + rest, -10);
            loads(said, word + "z" + rest, -10);
            loads(said, word.toUpperCase() + rest, -10);
            loads(said, word.substring(0, 2) + " " + word.substring(2) + rest, -10);
            for (int i = 0; i < word.length(); i++) {
                loads(said, word.substring(0, i) + "q" + word.substring(i + 1) + rest, -10);
            }
        }
        loads(said, "weight12;", 1);
        loads(said, "weight1 2;", -18);
        loads(said, "layer 1 23;", -20);
    }

    /** Every character code where a space may stand, before, between and behind tokens. */
    private void everyCharacter() {
        Sentence said = says("by the grammar; any other character;");
        for (int code = 0; code <= 255; code++) {
            char c = (char) code;
            boolean letter = c >= 'a' && c <= 'z';
            boolean digit = c >= '0' && c <= '9';
            boolean space = c == ' ';
            loads(said, c + "weight 5;", space ? 1 : -10);
            loads(said, "weight" + c + "5;", space || (digit && c != '0') ? 1 : letter ? -10 : -16);
            loads(said, "weight 5" + c + ";", space || digit ? 1 : c == ';' ? -19 : -18);
            loads(said, "weight 5" + c, c == ';' ? 1 : space || digit ? -19 : -18);
            loads(said, "weight 5;" + c, space ? 1 : -19);
        }
    }

    private void spaces() {
        Sentence said = says("Spaces (code 32) may stand before, between and behind tokens;");
        loads(said, "   plan   3   4   ;   weight   5   ;   ", 2);
        loads(said, " boulder  1  2  3  4 ; layer  1  2  3 ; stiff  7 ; water  6 ; ", 4);
        loads(said, "weight 5 6;", -19);
        loads(said, "wei ght 5;", -10);
        loads(said, "weight\t5;", -16);
        loads(said, "weight\n5;", -16);
        loads(said, "weight" + (char) 160 + "5;", -16);
    }

    private void spacesAreNecessary() {
        Sentence said = says("they are necessary only between two numbers.");
        loads(said, "plan3 4;weight5;water6;stiff7;layer1 2 3;boulder1 2 3 4;", 6);
        loads(said, "plan34;", -14);
        loads(said, "layer1 23;", -19);
        loads(said, "layer12 3;", -19);
        loads(said, "boulder12 3 4;", -17);
        loads(said, "boulder1 23 4;", -19);
        loads(said, "boulder1 2 34;", -23);
    }

    private void numbers() {
        Sentence said = says("a number out of its range");
        for (Object[] row : NUMBERS) {
            String before = (String) row[0];
            String behind = (String) row[1];
            int low = (Integer) row[2];
            int high = (Integer) row[3];
            int wrong = -10 - before.length();
            loads(said, before + low + behind, 1);
            loads(said, before + high + behind, 1);
            loads(said, before + (high + 1) + behind, wrong);
            if (low > 0) {
                loads(said, before + (low - 1) + behind, wrong);
            }
            loads(said, before + (high + 1), wrong);
            loads(said, "stiff 1;" + (before.startsWith("plan") ? "" : before + (high + 1) + behind),
                    before.startsWith("plan") ? 1 : wrong - 8);
        }
    }

    private void digits() {
        Sentence said = says("A number has at most 4 digits and no leading zeros.");
        loads(said, "weight 1000;", 1);
        loads(said, "weight 9999;", 1);
        loads(said, "stiff 9999;", 1);
        for (Object[] row : NUMBERS) {
            String before = (String) row[0];
            String behind = (String) row[1];
            int wrong = -10 - before.length();
            for (String number : new String[] {"00", "0" + row[2], "0" + row[3], "0001", "00001", "10000", "99999",
                "000000000000000001", "4294967299", "4294967297", "18446744073709551617"}) {
                loads(said, before + number + behind, wrong);
            }
        }
        loads(said, "water 0;", 1);
        loads(said, "stiff 0;", 1);
        loads(said, "layer 1 0 0;", 1);
        loads(said, "boulder 0 0 1 1;", 1);
    }

    private void planIsTheFirst() {
        Sentence said = says("\"plan\" can only be the first item;");
        loads(said, "plan 3 4;", 1);
        loads(said, "  plan 3 4;", 1);
        loads(said, "plan 3 4;plan 3 4;", -19);
        for (String[] item : ITEMS) {
            String first = String.join(" ", item);
            loads(said, first + " plan 3 4;", -11 - first.length());
            loads(said, first + "plan", -10 - first.length());
        }
        said.noTraceOnText("weight 5;plan 3 4;", BEFORE, "load() = -19");
        said.run("without it").calls("resize(7,7) = 25").type("weight 5;").calls("load() = 1; state(0) = 5; state(1) = 4");
    }

    private void theLastOneCounts() {
        says("\"weight\", \"water\" and \"stiff\" may occur several times, and the last one counts.").run()
                .type("weight 9;water 8;stiff 7;").calls("load() = 3; state(2) = 9; state(9) = 8; state(10) = 7")
                .type("weight 1;weight 2;water 3;weight 4;stiff 5;water 6;stiff 7;stiff 8;")
                .calls("load() = 8; state(2) = 4; state(9) = 6; state(10) = 8");
    }

    /** In the place of each token of each item any wrong one, at the beginning and behind another item. */
    private void wrongTokens() {
        Sentence said = says("The text is read from left to right; the error position is the offset (from 0) of the first"
                + " character of the first token that is not allowed where it stands:");
        for (String[] item : ITEMS) {
            for (int place = 0; place < item.length; place++) {
                for (String wrong : new String[] {"q", "weight", "boulder", "6", "0", ";", "#", "W", "-"}) {
                    boolean word = Character.isLowerCase(wrong.charAt(0)) && wrong.length() > 1;
                    boolean number = Character.isDigit(wrong.charAt(0));
                    boolean fits = place == 0 ? word : place == item.length - 1 ? wrong.equals(";") : number;
                    if (!fits) {
                        wrongToken(said, "", item, place, wrong);
                        if (!item[0].equals("plan")) {
                            wrongToken(said, "plan 5 4; weight 3;", item, place, wrong);
                        }
                    }
                }
            }
        }
    }

    private void wrongToken(Sentence said, String before, String[] item, int place, String wrong) {
        StringBuilder text = new StringBuilder(before);
        int position = 0;
        for (int i = 0; i < item.length; i++) {
            position = i == place ? text.length() : position;
            text.append(i == place ? wrong : item[i]).append(' ');
        }
        loads(said, text.toString(), -10 - position);
    }

    private void theFirstError() {
        Sentence said = says("The text is read from left to right; the error position is the offset (from 0) of the first"
                + " character of the first token that is not allowed where it stands:");
        loads(said, "weight 0 0;", -17);
        loads(said, "weight 5 #;weight 0;", -19);
        loads(said, "layer 1 51 10;", -18);
        loads(said, "layer 0 51 10;", -16);
        loads(said, "boulder 5 4 0 0;", -18);
        loads(said, "boulder 1 4 0 0;", -20);
        loads(said, "boulder 1 1 0 0;", -22);
        loads(said, "#weight 5;", -10);
        loads(said, "weight 5;  #", -21);
        said.noTraceOnText("plan 3 3;weight 5;water 6;stiff 7;layer 1 2 3;boulder 1 1 1 1;#", BEFORE, "load() = -72");
        said.noTraceOnText("#", BEFORE, "load() = -10");
        // Once more, and then with the rest of the item.
        said.run("again").type("weight 5").calls("load() = -18; load() = -18; appendCharacter(59) = 9; load() = 1;"
                + "state(2) = 5; load() = 0; state(2) = 600");
    }

    private void secondBoulder() {
        Sentence said = says("(for a boulder also a second boulder at the same place, where the depth is not allowed;"
                + " X and Y by the plan);");
        loads(said, "boulder 1 2 3 4;boulder 1 2 3 5;", -38);
        loads(said, "boulder 1 2 3 4;boulder 1 2 3", -38);
        loads(said, "boulder 1 2 3 4;boulder 1 2 3 0;", -38);
        loads(said, "boulder 1 2 3 4;boulder 1 2 4 4;", 2);
        loads(said, "boulder 1 2 3 4;boulder 1 2 2 4;", 2);
        loads(said, "boulder 1 2 3 4;boulder 2 2 3 4;", 2);
        loads(said, "boulder 1 2 3 4;boulder 1 1 3 4;", 2);
        loads(said, "boulder 1 2 3 4;boulder 2 1 3 4;", 2);
        loads(said, "boulder 1 2 3 4;weight 5;boulder 0 0 1 1;boulder  1  2  3 4;", -66);
        said.noTraceOnText("boulder 1 2 3 4;boulder 1 2 3 5;", BEFORE, "load() = -38");
        // Those that lie in the present ground don't count.
        said.run("anew").calls("addBoulder(11,3,9) = 0").type("boulder 1 2 3 4;").calls("load() = 1; boulder(0,2) = 4");
    }

    private void placesByThePlan() {
        Sentence said = says("(for a boulder also a second boulder at the same place, where the depth is not allowed;"
                + " X and Y by the plan);");
        for (int w = 3; w <= 7; w++) {
            for (int l = 3; l <= 7; l++) {
                String plan = "plan " + w + " " + l + ";";
                said.run(plan).type(plan + "boulder " + (w - 1) + " " + (l - 1) + " 1 1;")
                        .calls("load() = 2; boulder(0,0) = " + (w * l - 1));
                loads(said, plan + "boulder " + w + " 0 1 1;", -27);
                loads(said, plan + "boulder 0 " + l + " 1 1;", -29);
            }
        }
        // Without a plan by the 5 x 4 of the beginning, whatever the present caisson is.
        for (String before : new String[] {"resize(7,7) = 25", "resize(3,3) = 1"}) {
            said.run(before).calls(before).type("boulder 4 3 1 1;").calls("load() = 1; boulder(0,0) = 19");
            said.run(before).calls(before).type("boulder 5 3 1 1;").calls("load() = -18");
            said.run(before).calls(before).type("boulder 4 4 1 1;").calls("load() = -20");
        }
    }

    private void endInsideOfAnItem() {
        Sentence said = says("If the text ends inside of an item, the error position is the length of the text.");
        for (String[] item : ITEMS) {
            for (String first : new String[] {"", "stiff 1;", "stiff 1; "}) {
                if (!first.isEmpty() && item[0].equals("plan")) {
                    continue;
                }
                StringBuilder text = new StringBuilder(first);
                for (int i = 0; i < item.length - 1; i++) {
                    text.append(item[i]);
                    loads(said, text.toString(), -10 - text.length());
                    text.append(' ');
                    loads(said, text.toString(), -10 - text.length());
                    loads(said, text + "   ", -13 - text.length());
                }
                loads(said, text + ";", first.isEmpty() ? 1 : 2);
                loads(said, text + "; ", first.isEmpty() ? 1 : 2);
            }
        }
        said.noTraceOnText("weight 5;layer 1 2", BEFORE, "load() = -28");
    }

    /** Where the text ends inside of a word, that is no word of the grammar: the error is where it begins. */
    private void everyEnd() {
        Sentence said = says("If the text ends inside of an item, the error position is the length of the text.");
        String text = "plan 3 4;weight 12;boulder 1 2 3 4;";
        for (int end = 0; end <= text.length(); end++) {
            int items = end == 35 ? 3 : end >= 19 ? 2 : end >= 9 ? 1 : 0;
            int start = new int[] {0, 9, 19, 35}[items];
            int wordLength = new int[] {4, 6, 7, 0}[items];
            int answer = end == start ? items : end < start + wordLength ? -10 - start : -10 - end;
            loads(said, text.substring(0, end), answer);
        }
    }

    private void fullTexts() {
        Sentence said = says("If the text ends inside of an item, the error position is the length of the text.");
        loads(said, " ".repeat(191) + "weight 5;", 1);
        loads(said, "weight 5;" + " ".repeat(191), 1);
        loads(said, " ".repeat(192) + "weight 5", -210);
        loads(said, "weight 5" + " ".repeat(192), -210);
        loads(said, "weight" + " ".repeat(192) + "5;", 1);
        loads(said, " ".repeat(194) + "weight", -210);
        loads(said, " ".repeat(195) + "weigh", -205);
        loads(said, " ".repeat(199) + ";", -209);
        loads(said, " ".repeat(199) + "7", -209);
        loads(said, " ".repeat(199) + "w", -209);
        loads(said, " ".repeat(198) + "w", -208);
        // What a longer text before has left behind doesn't count.
        said.run("a shorter one").type("weight 55;").type("weight 5").calls("load() = -18").type("weigh").calls("load() = -10")
                .type("weight ").calls("load() = -17");
    }

    private void textIsKeptOrEmptied() {
        says("The text becomes empty.").run().type("weight 5;").calls("load() = 1; clearText() = 0; load() = 0; state(2) = 600")
                .type(" ".repeat(200)).calls("load() = 0; appendCharacter(59) = 1; load() = -10");
        Sentence said = says("-10 minus the error position if the text has an error (then nothing changes, and the text is kept).");
        said.noTraceOnText("weight 5;q", BEFORE, "load() = -19");
        said.noTraceOnText("weight 5;boulder 1 1 1 51;", BEFORE, "load() = -33");
        said.noTraceOnText("q" + " ".repeat(199), "dig(6,1) = 1", "load() = -10");
        said.noTraceOnText(" ".repeat(199) + "q", "dig(6,1) = 1", "load() = -209");
        // Behind a text that was refused nothing is left of it.
        said.run("a draft").type("plan 3 3;weight 5;water 6;stiff 7;layer 1 2 3;boulder 1 1 1 1;q").calls("load() = -72")
                .type("").calls("load() = 0; state(0) = 5; state(1) = 4; state(2) = 600; state(7) = 0; state(8) = 0;"
                        + "state(9) = 400; state(10) = 400");
    }

    private void asAtFirst() {
        Sentence said = says("Everything that the text does not tell is as at first (also bottoms, ballast, lubrication and"
                + " records).");
        String first = "state(0) = 5; state(1) = 4; state(2) = 600; state(3) = 0; state(4) = 10; state(5) = 10; state(6) = 0;"
                + "state(7) = 0; state(8) = 0; state(9) = 400; state(10) = 400; state(11) = 0; record(0,0) = NONE; bottom(6) = 0;"
                + "lubricate(2,0) = ILLEGAL_STATE; setBallast(5,0) = ILLEGAL_STATE; surplus() = 720; ground(0,0) = 60;";
        said.holds("setStiffness(3) = 400; setBallast(5,9) = 0;" + BEFORE + "state(4) = 7; load() = 0;" + first
                + "undo() = 5; state(3) = 3; state(4) = 7; bottom(6) = 4; state(11) = 5");
        // Each item changes its own alone.
        said.run("weight").type("weight 7;").calls("load() = 1; state(2) = 7; setWeight(600) = 7;" + first);
        said.run("water").type("water 7;").calls("load() = 1; state(9) = 7; state(11) = 0; state(2) = 600; state(10) = 400");
        said.run("stiff").type("stiff 7;").calls("load() = 1; state(10) = 7; setStiffness(400) = 7;" + first);
        said.run("plan").type("plan 6 3;").calls("load() = 1; state(0) = 6; state(1) = 3; resize(5,4) = 6;" + first);
        said.run("layer").type("layer 7 8 9;").calls("load() = 1; state(8) = 1; ground(6,0) = 8; ground(7,0) = 60; state(7) = 0;"
                + "state(2) = 600; state(9) = 400; state(10) = 400; surplus() = 2176");
        said.run("boulder").type("boulder 1 2 3 4;").calls("load() = 1; state(7) = 1; resize(5,4) = 6;" + first);
    }
}
