import java.util.ArrayList;
import java.util.Arrays;
import java.util.List;
import java.util.TreeMap;
import java.util.regex.Matcher;
import java.util.regex.Pattern;

/**
 * The document once more, sentence by sentence and without regard to room or speed, as a second
 * opinion for random runs. It shares no code with the program and is built in another way: whole
 * copies of a state, a depth at a time, rational means, and regular expressions for the text.
 */
final class PlainModel {
    private static final int INVALID = -1000001;
    private static final int ILLEGAL = -1000002;
    private static final int FULL = -1000003;
    private static final int NONE = -1000009;

    /** All that is saved. */
    private static final class World {
        int w = 5;
        int l = 4;
        int g = 600;
        int stiffness = 400;
        int water = 400;
        int c = 0;
        int a = 0;
        int b = 0;
        int[] bottoms = new int[20];
        int[] ballast = new int[20];
        boolean[] slick = new boolean[4];
        List<int[]> layers = new ArrayList<>();
        /** By cell * 1000 + depth, which is the order of the document. */
        TreeMap<Integer, Integer> hardness = new TreeMap<>();
        /** The newest one is the last one. */
        List<int[]> records = new ArrayList<>();

        World copy() {
            World copy = new World();
            copy.w = w;
            copy.l = l;
            copy.g = g;
            copy.stiffness = stiffness;
            copy.water = water;
            copy.c = c;
            copy.a = a;
            copy.b = b;
            copy.bottoms = bottoms.clone();
            copy.ballast = ballast.clone();
            copy.slick = slick.clone();
            copy.layers = new ArrayList<>(layers);
            copy.hardness = new TreeMap<>(hardness);
            copy.records = new ArrayList<>(records);
            return copy;
        }

        void newCaisson(int columns, int rows) {
            w = columns;
            l = rows;
            c = 0;
            a = 0;
            b = 0;
            bottoms = new int[w * l];
            ballast = new int[w * l];
            slick = new boolean[4];
            hardness = new TreeMap<>();
        }

        int x(int cell) {
            return cell % w;
        }

        int y(int cell) {
            return cell / w;
        }

        boolean isCell(int cell) {
            return 0 <= cell && cell < w * l;
        }

        List<Integer> sidesOf(int cell) {
            List<Integer> sides = new ArrayList<>();
            if (x(cell) == 0) {
                sides.add(0);
            }
            if (x(cell) == w - 1) {
                sides.add(1);
            }
            if (y(cell) == 0) {
                sides.add(2);
            }
            if (y(cell) == l - 1) {
                sides.add(3);
            }
            return sides;
        }

        boolean isEdge(int cell) {
            return isCell(cell) && !sidesOf(cell).isEmpty();
        }

        boolean isWell(int cell) {
            return isCell(cell) && sidesOf(cell).isEmpty();
        }

        List<Integer> edges() {
            List<Integer> edges = new ArrayList<>();
            for (int cell = 0; cell < w * l; cell++) {
                if (isEdge(cell)) {
                    edges.add(cell);
                }
            }
            return edges;
        }

        int strength(int depth) {
            return groundAt(depth)[1];
        }

        int friction(int depth) {
            return groundAt(depth)[2];
        }

        private int[] groundAt(int depth) {
            int sum = 0;
            for (int[] layer : layers) {
                sum += layer[0];
                if (sum > depth) {
                    return layer;
                }
            }
            return new int[] {0, 60, 9};
        }

        int edgeDepth(int cell) {
            double part = (a * (2 * x(cell) - w + 1) + b * (2 * y(cell) - l + 1)) / 2.0;
            return (int) Math.max(0, Math.floor(c + part));
        }

        /** The nearest one of all wells, by the distance of columns and that of rows. */
        int wellBeside(int cell) {
            int best = -1;
            for (int well = 0; well < w * l; well++) {
                if (isWell(well) && (best < 0 || distance(cell, well) < distance(cell, best))) {
                    best = well;
                }
            }
            return best;
        }

        private int distance(int cell, int other) {
            return Math.abs(x(cell) - x(other)) + Math.abs(y(cell) - y(other));
        }

        int support(int cell) {
            int e = edgeDepth(cell);
            int m = e - bottoms[wellBeside(cell)];
            int times = m + 2;
            if (times < 0) {
                times = 0;
            }
            if (times > 4) {
                times = 4;
            }
            int sum = strength(e) * times;
            for (int depth = 1; depth <= e; depth++) {
                sum += 4 * hardness.getOrDefault(cell * 1000 + depth, 0);
            }
            return sum;
        }

        int skin(int cell) {
            return skinAtDepth(cell, edgeDepth(cell));
        }

        int skinAtDepth(int cell, int e) {
            int sum = 0;
            for (int depth = 0; depth <= e - 1; depth++) {
                sum += friction(depth);
            }
            for (int side : sidesOf(cell)) {
                if (slick[side]) {
                    return sum;
                }
            }
            return sum * 4;
        }

        int buoyancyAtDepth(int e) {
            return e > water ? e - water : 0;
        }

        int resistance(int cell) {
            return support(cell) + skin(cell) + buoyancyAtDepth(edgeDepth(cell));
        }

        int allBallast() {
            return Arrays.stream(ballast).sum();
        }

        int surplus() {
            int surplus = 4 * (g + allBallast());
            for (int cell : edges()) {
                surplus -= resistance(cell);
            }
            return surplus;
        }

        int arm(int axis, int cell) {
            return axis == 0 ? 2 * x(cell) - w + 1 : 2 * y(cell) - l + 1;
        }

        int moment(int axis) {
            int moment = 0;
            for (int cell : edges()) {
                moment += arm(axis, cell) * resistance(cell);
            }
            for (int cell = 0; cell < w * l; cell++) {
                moment -= arm(axis, cell) * 4 * ballast[cell];
            }
            return moment;
        }

        boolean holds() {
            return surplus() <= 0 || c == 200;
        }

        int changed(int tilt, int moment) {
            if (moment > stiffness) {
                return tilt - 1;
            }
            if (moment < -stiffness) {
                return tilt + 1;
            }
            return tilt;
        }

        int nextStep() {
            if (holds()) {
                return 0;
            }
            int nextA = changed(a, moment(0));
            int nextB = changed(b, moment(1));
            return nextA < -5 || nextA > 5 || nextB < -5 || nextB > 5 ? 2 : 1;
        }

        int settle(int steps) {
            int made = 0;
            while (made < steps && nextStep() == 1) {
                int nextA = changed(a, moment(0));
                int nextB = changed(b, moment(1));
                a = nextA;
                b = nextB;
                c++;
                made++;
            }
            for (int cell = 0; cell < w * l; cell++) {
                if (isWell(cell) && bottoms[cell] - c > 4 + strength(bottoms[cell]) / 5) {
                    bottoms[cell] = c;
                }
            }
            return made;
        }

        int dig(int cell, int amount) {
            int before = bottoms[cell];
            for (int i = 0; i < amount; i++) {
                int present = bottoms[cell];
                boolean onBoulder = hardness.containsKey(cell * 1000 + present);
                if (present >= c + 12 || present >= 220 || onBoulder) {
                    break;
                }
                bottoms[cell]++;
            }
            return bottoms[cell] - before;
        }

        int tiltSum() {
            return Math.abs(a) + Math.abs(b);
        }

        /** After digging and settling as bestWell() imagines it; null if the bottom can't sink. */
        World after(int well, int amount) {
            World next = copy();
            if (!next.isWell(well) || next.dig(well, amount) == 0) {
                return null;
            }
            if (!next.holds()) {
                next.settle(20);
            }
            return next;
        }

        int bestWell(int amount) {
            int best = NONE;
            World bestNext = null;
            for (int cell = 0; cell < w * l; cell++) {
                World next = after(cell, amount);
                if (next == null) {
                    continue;
                }
                if (bestNext == null || next.tiltSum() < bestNext.tiltSum()
                        || (next.tiltSum() == bestNext.tiltSum() && next.c > bestNext.c)) {
                    best = cell;
                    bestNext = next;
                }
            }
            return best;
        }
    }

    private World now = new World();
    private String text = "";
    private final List<World> saved = new ArrayList<>();
    private List<int[]> plan = new ArrayList<>();
    private int planAmount = 0;

    private static boolean in(int value, int low, int high) {
        return low <= value && value <= high;
    }

    private void save() {
        saved.add(now.copy());
        if (saved.size() > 6) {
            saved.remove(0);
        }
    }

    private void note(int kind, int number) {
        now.records.add(new int[] {kind, number, now.c});
        if (now.records.size() > 20) {
            now.records.remove(0);
        }
    }

    int answer(String method, int... v) {
        switch (method) {
            case "appendCharacter": return appendCharacter(v[0]);
            case "clearText": return clearText();
            case "load": return load();
            case "resize": return resize(v[0], v[1]);
            case "setWeight": return setWeight(v[0]);
            case "setStiffness": return setStiffness(v[0]);
            case "addLayer": return addLayer(v[0], v[1], v[2]);
            case "addBoulder": return addBoulder(v[0], v[1], v[2]);
            case "ground": return ground(v[0], v[1]);
            case "boulder": return boulder(v[0], v[1]);
            case "state": return state(v[0]);
            case "edge": return edge(v[0], v[1]);
            case "bottom": return now.isWell(v[0]) ? now.bottoms[v[0]] : INVALID;
            case "surplus": return now.surplus();
            case "moment": return in(v[0], 0, 1) ? now.moment(v[0]) : INVALID;
            case "nextStep": return now.nextStep();
            case "sideResistance": return sideResistance(v[0]);
            case "stuckDepth": return stuckDepth();
            case "ballastNeeded": return ballastNeeded();
            case "dig": return dig(v[0], v[1]);
            case "settle": return settle(v[0]);
            case "setBallast": return setBallast(v[0], v[1]);
            case "lubricate": return lubricate(v[0], v[1]);
            case "blast": return blast(v[0], v[1]);
            case "pump": return pump(v[0]);
            case "record": return record(v[0], v[1]);
            case "wouldSettle": return wouldSettle(v[0], v[1]);
            case "bestWell": return in(v[0], 1, 10) ? now.bestWell(v[0]) : INVALID;
            case "makePlan": return makePlan(v[0], v[1]);
            case "plan": return plan(v[0], v[1]);
            case "carryOut": return carryOut(v[0]);
            case "highSide": return highSide();
            case "undo": return undo();
            default: throw new IllegalArgumentException(method);
        }
    }

    private int appendCharacter(int character) {
        if (!in(character, 0, 255)) {
            return INVALID;
        }
        if (text.length() == 200) {
            return FULL;
        }
        text += (char) character;
        return text.length();
    }

    private int clearText() {
        int length = text.length();
        text = "";
        return length;
    }

    private int load() {
        World world = new World();
        int answer = read(text, world);
        if (answer >= 0) {
            save();
            now = world;
            text = "";
        }
        return answer;
    }

    /** The tokens as {kind, start, end}; kinds w word, n number, ; and ? any other character. */
    private static List<int[]> tokens(String text) {
        List<int[]> tokens = new ArrayList<>();
        Matcher matcher = Pattern.compile("([a-z]+)|([0-9]+)|(;)|([^ ])", Pattern.DOTALL).matcher(text);
        while (matcher.find()) {
            char kind = matcher.group(1) != null ? 'w' : matcher.group(2) != null ? 'n'
                    : matcher.group(3) != null ? ';' : '?';
            tokens.add(new int[] {kind, matcher.start(), matcher.end()});
        }
        tokens.add(new int[] {'e', text.length(), text.length()});
        return tokens;
    }

    private static int read(String text, World world) {
        List<int[]> tokens = tokens(text);
        int at = 0;
        int items = 0;
        while (tokens.get(at)[0] != 'e') {
            int[] first = tokens.get(at);
            String word = text.substring(first[1], first[2]);
            int[][] ranges = ranges(word, items, world);
            if (ranges == null) {
                return -10 - first[1];
            }
            int[] values = new int[ranges.length];
            for (int i = 0; i < ranges.length; i++) {
                at++;
                int[] token = tokens.get(at);
                String digits = text.substring(token[1], token[2]);
                boolean good = token[0] == 'n' && digits.matches("0|[1-9][0-9]{0,3}");
                if (good) {
                    values[i] = Integer.parseInt(digits);
                    good = in(values[i], ranges[i][0], ranges[i][1]);
                }
                if (good && word.equals("boulder") && i == 2) {
                    good = !world.hardness.containsKey(key(values, world));
                }
                if (!good) {
                    return -10 - token[1];
                }
            }
            at++;
            if (tokens.get(at)[0] != ';') {
                return -10 - tokens.get(at)[1];
            }
            at++;
            enter(word, values, world);
            items++;
        }
        return items;
    }

    private static int key(int[] values, World world) {
        return (values[1] * world.w + values[0]) * 1000 + values[2];
    }

    private static int[][] ranges(String word, int items, World world) {
        if (word.equals("plan") && items == 0) {
            return new int[][] {{3, 7}, {3, 7}};
        }
        if (word.equals("weight")) {
            return new int[][] {{1, 9999}};
        }
        if (word.equals("water")) {
            return new int[][] {{0, 400}};
        }
        if (word.equals("stiff")) {
            return new int[][] {{0, 9999}};
        }
        if (word.equals("layer") && world.layers.size() < 8) {
            return new int[][] {{1, 100}, {0, 50}, {0, 9}};
        }
        if (word.equals("boulder") && world.hardness.size() < 10) {
            return new int[][] {{0, world.w - 1}, {0, world.l - 1}, {1, 200}, {1, 50}};
        }
        return null;
    }

    private static void enter(String word, int[] values, World world) {
        switch (word) {
            case "plan": world.newCaisson(values[0], values[1]); break;
            case "weight": world.g = values[0]; break;
            case "water": world.water = values[0]; break;
            case "stiff": world.stiffness = values[0]; break;
            case "layer": world.layers.add(values); break;
            default: world.hardness.put(key(values, world), values[3]); break;
        }
    }

    private int resize(int columns, int rows) {
        if (!in(columns, 3, 7) || !in(rows, 3, 7)) {
            return INVALID;
        }
        save();
        now.newCaisson(columns, rows);
        return columns * rows - now.edges().size();
    }

    private int setWeight(int weight) {
        if (!in(weight, 1, 9999)) {
            return INVALID;
        }
        save();
        int before = now.g;
        now.g = weight;
        return before;
    }

    private int setStiffness(int stiffness) {
        if (!in(stiffness, 0, 9999)) {
            return INVALID;
        }
        save();
        int before = now.stiffness;
        now.stiffness = stiffness;
        return before;
    }

    private int addLayer(int thickness, int strength, int friction) {
        if (!in(thickness, 1, 100) || !in(strength, 0, 50) || !in(friction, 0, 9)) {
            return INVALID;
        }
        if (now.layers.size() == 8) {
            return FULL;
        }
        save();
        now.layers.add(new int[] {thickness, strength, friction});
        return now.layers.size();
    }

    private int addBoulder(int cell, int depth, int hardness) {
        if (!now.isCell(cell) || !in(depth, 1, 200) || !in(hardness, 1, 50)) {
            return INVALID;
        }
        int key = cell * 1000 + depth;
        if (now.hardness.containsKey(key)) {
            return ILLEGAL;
        }
        if (now.hardness.size() == 10) {
            return FULL;
        }
        save();
        now.hardness.put(key, hardness);
        return now.hardness.headMap(key).size();
    }

    private int ground(int depth, int what) {
        if (!in(depth, 0, 999) || !in(what, 0, 1)) {
            return INVALID;
        }
        return what == 0 ? now.strength(depth) : now.friction(depth);
    }

    private int boulder(int boulder, int what) {
        if (!in(boulder, 0, now.hardness.size() - 1) || !in(what, 0, 2)) {
            return INVALID;
        }
        int key = new ArrayList<>(now.hardness.keySet()).get(boulder);
        return what == 0 ? key / 1000 : what == 1 ? key % 1000 : now.hardness.get(key);
    }

    private int state(int what) {
        if (!in(what, 0, 11)) {
            return INVALID;
        }
        return new int[] {now.w, now.l, now.g, now.c, now.a + 10, now.b + 10, now.allBallast(),
            now.hardness.size(), now.layers.size(), now.water, now.stiffness,
            now.records.size()}[what];
    }

    private int edge(int cell, int what) {
        if (!now.isEdge(cell) || !in(what, 0, 4)) {
            return INVALID;
        }
        return new int[] {now.edgeDepth(cell), now.support(cell), now.skin(cell),
            now.buoyancyAtDepth(now.edgeDepth(cell)), now.wellBeside(cell)}[what];
    }

    private int sideResistance(int side) {
        if (!in(side, 0, 3)) {
            return INVALID;
        }
        int sum = 0;
        for (int cell : now.edges()) {
            if (now.sidesOf(cell).contains(side)) {
                sum += now.resistance(cell);
            }
        }
        return sum;
    }

    private int stuckDepth() {
        for (int h = now.c; h <= 200; h++) {
            int sum = 0;
            for (int cell : now.edges()) {
                sum += now.skinAtDepth(cell, h) + now.buoyancyAtDepth(h);
            }
            if (4 * now.g + 4 * now.allBallast() <= sum) {
                return h;
            }
        }
        return NONE;
    }

    private int ballastNeeded() {
        int surplus = now.surplus();
        int needed = 0;
        while (surplus + 4 * needed <= 0) {
            needed++;
        }
        return needed;
    }

    private int dig(int cell, int amount) {
        if (!now.isWell(cell) || !in(amount, 1, 10)) {
            return INVALID;
        }
        if (now.copy().dig(cell, amount) == 0) {
            return ILLEGAL;
        }
        save();
        int sank = now.dig(cell, amount);
        note(0, cell);
        return sank;
    }

    private int settle(int steps) {
        if (!in(steps, 1, 50)) {
            return INVALID;
        }
        if (now.holds()) {
            return ILLEGAL;
        }
        save();
        int made = now.settle(steps);
        note(1, made);
        return made;
    }

    private int setBallast(int cell, int ballast) {
        if (!now.isCell(cell) || !in(ballast, 0, 99)) {
            return INVALID;
        }
        int before = now.ballast[cell];
        if (before == ballast) {
            return ILLEGAL;
        }
        save();
        now.ballast[cell] = ballast;
        note(2, cell);
        return before;
    }

    private int lubricate(int side, int on) {
        if (!in(side, 0, 3) || !in(on, 0, 1)) {
            return INVALID;
        }
        if (now.slick[side] == (on == 1)) {
            return ILLEGAL;
        }
        save();
        now.slick[side] = on == 1;
        note(3, side);
        int sides = 0;
        for (boolean slick : now.slick) {
            sides += slick ? 1 : 0;
        }
        return sides;
    }

    private int blast(int cell, int charge) {
        if (!now.isCell(cell) || !in(charge, 1, 50)) {
            return INVALID;
        }
        int low = now.isEdge(cell) ? 1 : now.bottoms[cell];
        int high = now.isEdge(cell) ? now.edgeDepth(cell) : now.bottoms[cell] + 1;
        for (int depth = low; depth <= high; depth++) {
            Integer hardness = now.hardness.get(cell * 1000 + depth);
            if (hardness == null) {
                continue;
            }
            save();
            if (charge >= hardness) {
                now.hardness.remove(cell * 1000 + depth);
            } else {
                now.hardness.put(cell * 1000 + depth, hardness - charge);
            }
            note(4, cell);
            return charge >= hardness ? 0 : hardness - charge;
        }
        return ILLEGAL;
    }

    private int pump(int depth) {
        if (!in(depth, 0, 400)) {
            return INVALID;
        }
        if (now.water == depth) {
            return ILLEGAL;
        }
        save();
        int before = now.water;
        now.water = depth;
        note(5, depth);
        return before;
    }

    private int record(int record, int part) {
        if (record < 0 || !in(part, 0, 2)) {
            return INVALID;
        }
        int at = now.records.size() - 1 - record;
        return at < 0 ? NONE : now.records.get(at)[part];
    }

    private int wouldSettle(int steps, int what) {
        if (!in(steps, 1, 50) || !in(what, 0, 3)) {
            return INVALID;
        }
        World next = now.copy();
        int made = next.settle(steps);
        return new int[] {made, next.a + 10, next.b + 10, next.nextStep() == 2 ? 1 : 0}[what];
    }

    private int makePlan(int target, int amount) {
        if (!in(target, 1, 200) || !in(amount, 1, 10)) {
            return INVALID;
        }
        if (now.c >= target) {
            return ILLEGAL;
        }
        World world = now;
        plan = new ArrayList<>();
        planAmount = amount;
        while (world.c < target && plan.size() < 12 && world.bestWell(amount) != NONE) {
            int well = world.bestWell(amount);
            world = world.after(well, amount);
            plan.add(new int[] {well, world.c, world.tiltSum()});
        }
        return plan.size();
    }

    private int plan(int k, int part) {
        if (k < 0 || !in(part, 0, 2)) {
            return INVALID;
        }
        return k >= plan.size() ? NONE : plan.get(k)[part];
    }

    private int carryOut(int count) {
        if (!in(count, 1, plan.size())) {
            return INVALID;
        }
        save();
        for (int[] row : plan.subList(0, count)) {
            if (now.isWell(row[0])) {
                now.dig(row[0], planAmount);
            }
            if (!now.holds()) {
                now.settle(20);
            }
        }
        return now.c;
    }

    private int highSide() {
        if (now.a == 0 && now.b == 0) {
            return NONE;
        }
        int best = NONE;
        double least = 0;
        for (int side = 0; side < 4; side++) {
            int sum = 0;
            int cells = 0;
            for (int cell : now.edges()) {
                if (now.sidesOf(cell).contains(side)) {
                    sum += now.edgeDepth(cell);
                    cells++;
                }
            }
            // Multiples of 1/420 (3 to 7 divide it), so that equal means are equal numbers.
            double mean = Math.rint(sum * 420.0 / cells);
            if (best == NONE || mean < least) {
                best = side;
                least = mean;
            }
        }
        return best;
    }

    private int undo() {
        if (saved.isEmpty()) {
            return ILLEGAL;
        }
        now = saved.remove(saved.size() - 1);
        return saved.size();
    }
}
