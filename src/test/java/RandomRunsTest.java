import java.util.ArrayList;
import java.util.Arrays;
import java.util.List;
import java.util.Map;
import java.util.Random;
import java.util.TreeMap;

/** Runs of calls by chance (always the same ones), compared with the plain model call by call. */
public final class RandomRunsTest {
    private static final int RUNS = 900;
    /** The last calls of a run look at what has become of it. */
    private static final int CLOSING_CALLS = 150;
    private static final String[] WORDS = {"plan", "weight", "water", "stiff", "layer", "boulder"};

    /** What must have been answered now and then, or the runs would prove nothing about it. */
    private static final String[] MUST_OCCUR = {"nextStep 0", "nextStep 1", "nextStep 2",
        "settle 0", "highSide 0", "highSide 1", "highSide 2", "highSide 3", "bestWell -1000009",
        "makePlan 0", "makePlan 1", "makePlan 12", "stuckDepth -1000009", "wouldSettle 0",
        "state3 200", "state4 5", "state4 15", "state5 5", "state5 15", "state7 10", "state8 8",
        "state11 20", "undo 0", "undo 5", "blast 0", "blast -1000002", "dig -1000002",
        "appendCharacter -1000003", "addBoulder -1000003", "addBoulder -1000002",
        "addLayer -1000003", "load 9", "heave 1"};
    private static final Map<String, Integer> OCCURRED = new TreeMap<>();

    private final Checks checks;
    private final Random random;
    private final int run;
    private final CaissonSinker caisson = new CaissonSinker();
    private final PlainModel model = new PlainModel();
    private final List<String> before = new ArrayList<>();
    private int made = 0;

    private RandomRunsTest(Checks checks, int run) {
        this.checks = checks;
        this.run = run;
        this.random = new Random(run);
    }

    public static void main(String[] args) {
        Checks checks = new Checks("RandomRunsTest");
        for (int run = 0; run < RUNS && checks.isSpotless(); run++) {
            new RandomRunsTest(checks, run).go();
        }
        for (String answer : MUST_OCCUR) {
            checks.holds("never: " + answer, OCCURRED.getOrDefault(answer, 0) > 0);
        }
        checks.finish();
    }

    private void go() {
        prepare();
        while (left() > CLOSING_CALLS && checks.isSpotless()) {
            callSomething();
            for (int i = 0; i < 3; i++) {
                askOfTheWhole();
            }
        }
        while (left() > 40 && checks.isSpotless()) {
            askOfAPart();
        }
        while (left() > 0 && checks.isSpotless()) {
            if (random.nextInt(5) == 0) {
                call("undo");
            } else {
                askOfTheWhole();
            }
        }
    }

    private int left() {
        return Run.MOST_CALLS - made;
    }

    private int call(String method, int... values) {
        String row = method + Arrays.toString(values);
        before.add(row);
        made++;
        int got = Run.answer(caisson, method, values);
        int want = model.answer(method, values);
        if (got != want) {
            System.out.println("run " + run + " after " + before);
        }
        checks.due("run " + run + ": " + row, got, want);
        OCCURRED.merge(method + (method.equals("state") ? values[0] : "") + " " + got, 1, Integer::sum);
        return got;
    }

    private int upTo(int highest) {
        return random.nextInt(highest + 1);
    }

    /** Mostly within the range, now and then at its borders or outside. */
    private int from(int low, int high) {
        switch (random.nextInt(24)) {
            case 0: return low - 1;
            case 1: return high + 1;
            case 2: return low;
            case 3: return high;
            case 4: return random.nextInt(40) == 0 ? random.nextInt() : low;
            default: return low + random.nextInt(high - low + 1);
        }
    }

    private int cells() {
        return model.answer("state", 0) * model.answer("state", 1);
    }

    private int someCell() {
        return from(0, cells() - 1);
    }

    private int someWell() {
        for (int i = 0; i < 20; i++) {
            int cell = upTo(cells() - 1);
            if (model.answer("bottom", cell) >= 0) {
                return cell;
            }
        }
        return someCell();
    }

    /** What a run of 512 calls would seldom come to by itself: the depth of 200, or no well that could be dug. */
    private void prepareRareCase() {
        switch (random.nextInt(12)) {
            case 0:
                for (int i = 0; i < 4; i++) {
                    call("addLayer", 100, upTo(1), 0);
                    call("settle", 46 + upTo(4));
                }
                call("state", 3);
                break;
            case 1:
                call("resize", 3, 3);
                call("addBoulder", 4, 1 + upTo(4), 9);
                call("dig", 4, 1 + upTo(9));
                call("bestWell", 1 + upTo(9));
                break;
            default:
                break;
        }
    }

    /** Soft ground, so that most runs have something that sinks and tilts. */
    private void prepare() {
        prepareRareCase();
        if (random.nextInt(3) == 0) {
            type(goodText());
            call("load");
        }
        int layers = upTo(5);
        for (int i = 0; i < layers; i++) {
            call("addLayer", from(1, 40), from(0, random.nextBoolean() ? 4 : 25), from(0, upTo(2) + 1));
        }
        call("setStiffness", random.nextBoolean() ? from(0, 120) : from(0, 2000));
        if (random.nextBoolean()) {
            call("setWeight", from(1, random.nextBoolean() ? 9999 : 1500));
        }
        int boulders = upTo(6);
        for (int i = 0; i < boulders; i++) {
            call("addBoulder", someCell(), from(1, 30), from(1, 50));
        }
    }

    private void callSomething() {
        int pick = random.nextInt(100);
        if (pick < 16) {
            call("dig", random.nextInt(8) == 0 ? someCell() : someWell(), from(1, 10));
        } else if (pick < 28) {
            int well = someWell();
            int bottom = model.answer("bottom", well);
            call("settle", random.nextBoolean() ? from(1, 6) : from(1, 50));
            if (call("bottom", well) < bottom) {
                OCCURRED.merge("heave 1", 1, Integer::sum);
            }
        } else if (pick < 38) {
            call("setBallast", someCell(), from(0, 99));
        } else if (pick < 43) {
            call("lubricate", from(0, 3), from(0, 1));
        } else if (pick < 50) {
            blastSomewhere();
        } else if (pick < 54) {
            call("pump", random.nextBoolean() ? from(0, 40) : from(0, 400));
        } else if (pick < 59) {
            call("addBoulder", someCell(), from(1, random.nextBoolean() ? 20 : 200), from(1, 50));
        } else if (pick < 64) {
            call("wouldSettle", from(1, 50), from(0, 3));
        } else if (pick < 67) {
            call("bestWell", from(1, 10));
        } else if (pick < 70) {
            int c = model.answer("state", 3);
            call("makePlan", random.nextBoolean() ? from(1, 200) : from(c, c + 30), from(1, 10));
        } else if (pick < 74) {
            call("carryOut", from(1, random.nextBoolean() ? 3 : 12));
        } else if (pick < 84) {
            call("undo");
        } else {
            callSomethingRare();
        }
    }

    private void callSomethingRare() {
        switch (random.nextInt(12)) {
            case 10: call("stuckDepth"); break;
            case 11: call("ballastNeeded"); break;
            case 0: call("addLayer", from(1, 100), from(0, 50), from(0, 9)); break;
            case 1: call("setWeight", from(1, random.nextBoolean() ? 9999 : 900)); break;
            case 2: call("setStiffness", from(0, random.nextBoolean() ? 9999 : 300)); break;
            case 3:
                if (random.nextInt(4) == 0) {
                    call("resize", from(3, 7), from(3, 7));
                }
                break;
            case 4:
                type(random.nextBoolean() ? goodText() : badText());
                call("load");
                break;
            case 5: call("ground", from(0, 999), from(0, 1)); break;
            case 6: call("boulder", from(0, 9), from(0, 2)); break;
            case 7: call("edge", someCell(), from(0, 4)); break;
            case 8: call("record", from(0, 20), from(0, 2)); break;
            default: call("plan", from(0, 12), from(0, 2)); break;
        }
    }

    private void blastSomewhere() {
        int boulders = model.answer("state", 7);
        if (boulders > 0 && random.nextInt(5) != 0) {
            call("blast", model.answer("boulder", upTo(boulders - 1), 0), from(1, 50));
        } else {
            call("blast", someCell(), from(1, 50));
        }
    }

    /** No text where no room would be left for what comes behind it. */
    private void type(String text) {
        call("clearText");
        int end = Math.min(text.length(), left() - CLOSING_CALLS);
        for (int i = 0; i < end; i++) {
            call("appendCharacter", text.charAt(i));
        }
    }

    private String goodText() {
        StringBuilder text = new StringBuilder();
        int w = 5;
        int l = 4;
        if (random.nextBoolean()) {
            w = 3 + upTo(4);
            l = 3 + upTo(4);
            text.append("plan").append(gap()).append(w).append(' ').append(gap()).append(l).append(';');
        }
        int items = upTo(random.nextInt(10) == 0 ? 30 : 12);
        for (int i = 0; i < items && text.length() < 195; i++) {
            text.append(gap());
            switch (random.nextInt(5)) {
                case 0: text.append("weight ").append(1 + upTo(3000)); break;
                case 1: text.append("water").append(gap()).append(upTo(400)); break;
                case 2: text.append("stiff ").append(upTo(500)); break;
                case 3:
                    text.append("layer").append(gap()).append(1 + upTo(40)).append(' ')
                            .append(upTo(30)).append(' ').append(upTo(4));
                    break;
                default:
                    text.append("boulder").append(gap()).append(upTo(w - 1)).append(' ')
                            .append(upTo(l - 1)).append("  ").append(1 + upTo(25)).append(' ')
                            .append(1 + upTo(49));
                    break;
            }
            text.append(gap()).append(';');
        }
        return text.append(gap()).toString();
    }

    private String gap() {
        return random.nextInt(3) == 0 ? " " : "";
    }

    /** A good text with one change, or tokens by chance. */
    private String badText() {
        StringBuilder text = new StringBuilder(goodText());
        if (text.length() > 0 && random.nextInt(4) != 0) {
            int at = upTo(text.length() - 1);
            String signs = " ;0159azwAZ\t-.@[`{/:" + (char) 0 + (char) 255;
            switch (random.nextInt(4)) {
                case 0: text.deleteCharAt(at); break;
                case 1: text.setLength(at); break;
                case 2: text.insert(at, signs.charAt(upTo(signs.length() - 1))); break;
                default: text.setCharAt(at, signs.charAt(upTo(signs.length() - 1))); break;
            }
            return text.toString();
        }
        text.setLength(0);
        int tokens = upTo(8);
        for (int i = 0; i < tokens; i++) {
            switch (random.nextInt(4)) {
                case 0: text.append(';'); break;
                case 1: text.append(WORDS[upTo(5)]); break;
                case 2: text.append(upTo(20)).append(' '); break;
                default: text.append(random.nextInt(20000)).append(gap()); break;
            }
        }
        return text.toString();
    }

    private void askOfTheWhole() {
        switch (random.nextInt(8)) {
            case 0: call("surplus"); break;
            case 1: call("moment", upTo(1)); break;
            case 2: call("nextStep"); break;
            case 3: call("highSide"); break;
            case 4: call("bottom", someWell()); break;
            case 5: call("edge", someCell(), upTo(3)); break;
            default: call("state", from(0, 11)); break;
        }
    }

    private void askOfAPart() {
        switch (random.nextInt(11)) {
            case 0: call("bottom", someCell()); break;
            case 1: call("edge", someCell(), from(0, 4)); break;
            case 2: call("record", from(0, 20), from(0, 2)); break;
            case 3: call("plan", from(0, 12), from(0, 2)); break;
            case 4: call("boulder", from(0, 9), from(0, 2)); break;
            case 5: call("sideResistance", from(0, 3)); break;
            case 6: call("wouldSettle", from(1, 50), from(0, 3)); break;
            case 7: call("stuckDepth"); break;
            case 8: call("ballastNeeded"); break;
            case 9: call("ground", from(0, 200), from(0, 1)); break;
            default: call("state", from(0, 11)); break;
        }
    }
}
