/**
 * A model of an open caisson that is sunk into the ground by digging inside of it.
 *
 * Every array and object is made in the constructor and used again, so that no later call takes
 * up room.
 */
public final class CaissonSinker {
    public static final int INVALID_ARGUMENT = -1000001;
    public static final int ILLEGAL_STATE = -1000002;
    public static final int CAPACITY_EXCEEDED = -1000003;
    public static final int NONE = -1000009;

    private static final int LEAST_LENGTH = 3;
    private static final int MOST_LENGTH = 7;
    private static final int MOST_CELLS = MOST_LENGTH * MOST_LENGTH;
    private static final int FIRST_COLUMNS = 5;
    private static final int FIRST_ROWS = 4;

    private static final int WEST = 0;
    private static final int EAST = 1;
    private static final int SOUTH = 2;
    private static final int NORTH = 3;
    private static final int SIDES = 4;

    private static final int FIRST_WEIGHT = 600;
    private static final int MOST_WEIGHT = 9999;
    private static final int FIRST_STIFFNESS = 400;
    private static final int MOST_STIFFNESS = 9999;
    private static final int MOST_BALLAST = 99;
    private static final int FIRST_WATER = 400;
    private static final int MOST_WATER = 400;

    private static final int MOST_DEPTH = 200;
    private static final int MOST_TILT = 5;
    private static final int TILT_SHIFT = 10;
    private static final int MOST_ASKED_DEPTH = 999;

    private static final int MOST_LAYERS = 8;
    private static final int MOST_THICKNESS = 100;
    private static final int MOST_STRENGTH = 50;
    private static final int MOST_FRICTION = 9;
    private static final int STRENGTH_BELOW_LAYERS = 60;
    private static final int FRICTION_BELOW_LAYERS = 9;

    private static final int MOST_BOULDERS = 10;
    private static final int MOST_HARDNESS = 50;
    private static final int MOST_CHARGE = 50;

    private static final int MOST_DIGGING = 10;
    private static final int DIGGING_BELOW_EDGE = 12;
    private static final int LOWEST_BOTTOM = 220;
    private static final int MOST_STEPS = 50;
    private static final int PLANNED_STEPS = 20;
    private static final int MOST_PLANNED_WELLS = 12;

    private static final int MOST_CHARACTERS = 200;
    private static final int MOST_CHARACTER = 255;
    private static final int TEXT_ERROR = -10;
    private static final int MOST_RECORDS = 20;
    private static final int MOST_SAVED = 6;
    private static final int PARTS = 3;

    private static final int DUG = 0;
    private static final int SETTLED = 1;
    private static final int BALLASTED = 2;
    private static final int LUBRICATED = 3;
    private static final int BLASTED = 4;
    private static final int PUMPED = 5;

    private final Forces forces = new Forces();
    private final Site site = forces.site;
    private final Site draft = new Site();
    private final History history = new History();
    private final Text text = new Text();
    private final Triples wellsToDig = new Triples(MOST_PLANNED_WELLS);
    private final Pose imagined = new Pose();
    private int plannedAmount;

    public CaissonSinker() {
        plannedAmount = 0;
    }

    // ---- caisson and ground

    public int appendCharacter(int character) {
        if (!isWithin(character, 0, MOST_CHARACTER)) {
            return INVALID_ARGUMENT;
        }
        if (text.length >= MOST_CHARACTERS) {
            return CAPACITY_EXCEEDED;
        }
        text.append((char) character);
        return text.length;
    }

    public int clearText() {
        int previous = text.length;
        text.length = 0;
        return previous;
    }

    public int load() {
        int answer = text.readInto(draft);
        if (answer < 0) {
            return answer;
        }
        history.save(site);
        site.copyFrom(draft);
        text.length = 0;
        return answer;
    }

    public int resize(int columns, int rows) {
        if (!isWithin(columns, LEAST_LENGTH, MOST_LENGTH)
                || !isWithin(rows, LEAST_LENGTH, MOST_LENGTH)) {
            return INVALID_ARGUMENT;
        }
        history.save(site);
        site.replaceCaisson(columns, rows);
        return (columns - 2) * (rows - 2);
    }

    public int setWeight(int weight) {
        if (!isWithin(weight, 1, MOST_WEIGHT)) {
            return INVALID_ARGUMENT;
        }
        history.save(site);
        int previous = site.weight;
        site.weight = weight;
        return previous;
    }

    public int setStiffness(int stiffness) {
        if (!isWithin(stiffness, 0, MOST_STIFFNESS)) {
            return INVALID_ARGUMENT;
        }
        history.save(site);
        int previous = site.stiffness;
        site.stiffness = stiffness;
        return previous;
    }

    public int addLayer(int thickness, int strength, int friction) {
        if (!isWithin(thickness, 1, MOST_THICKNESS) || !isWithin(strength, 0, MOST_STRENGTH)
                || !isWithin(friction, 0, MOST_FRICTION)) {
            return INVALID_ARGUMENT;
        }
        if (site.ground.layers.isFull()) {
            return CAPACITY_EXCEEDED;
        }
        history.save(site);
        site.ground.addBelow(thickness, strength, friction);
        return site.ground.layers.count;
    }

    public int addBoulder(int cell, int depth, int hardness) {
        if (!site.isCell(cell) || !isWithin(depth, 1, MOST_DEPTH)
                || !isWithin(hardness, 1, MOST_HARDNESS)) {
            return INVALID_ARGUMENT;
        }
        if (site.boulders.isTaken(cell, depth)) {
            return ILLEGAL_STATE;
        }
        if (site.boulders.list.isFull()) {
            return CAPACITY_EXCEEDED;
        }
        history.save(site);
        return site.boulders.place(cell, depth, hardness);
    }

    public int ground(int depth, int what) {
        if (!isWithin(depth, 0, MOST_ASKED_DEPTH) || !isWithin(what, 0, 1)) {
            return INVALID_ARGUMENT;
        }
        return what == 0 ? site.ground.strengthAt(depth) : site.ground.frictionAt(depth);
    }

    public int boulder(int boulder, int what) {
        if (!site.boulders.list.has(boulder) || !isWithin(what, 0, PARTS - 1)) {
            return INVALID_ARGUMENT;
        }
        return site.boulders.list.get(boulder, what);
    }

    public int state(int what) {
        switch (what) {
            case 0: return site.columns;
            case 1: return site.rows;
            case 2: return site.weight;
            case 3: return site.pose.depth;
            case 4: return site.pose.tiltX + TILT_SHIFT;
            case 5: return site.pose.tiltY + TILT_SHIFT;
            case 6: return site.totalBallast();
            case 7: return site.boulders.list.count;
            case 8: return site.ground.layers.count;
            case 9: return site.water;
            case 10: return site.stiffness;
            case 11: return site.records.count;
            default: return INVALID_ARGUMENT;
        }
    }

    // ---- forces

    public int edge(int cell, int what) {
        if (!site.isEdge(cell)) {
            return INVALID_ARGUMENT;
        }
        int x = site.columnOf(cell);
        int y = site.rowOf(cell);
        int depth = forces.edgeDepth(site.pose, x, y);
        switch (what) {
            case 0: return depth;
            case 1: return forces.support(site.pose, x, y, depth);
            case 2: return forces.skinForce(x, y, depth);
            case 3: return forces.buoyancy(depth);
            case 4: return site.wellBeside(x, y);
            default: return INVALID_ARGUMENT;
        }
    }

    public int bottom(int cell) {
        return site.isWell(cell) ? site.pose.bottomOf(cell) : INVALID_ARGUMENT;
    }

    public int surplus() {
        forces.examine(site.pose);
        return forces.excess;
    }

    public int moment(int axis) {
        if (!isWithin(axis, 0, 1)) {
            return INVALID_ARGUMENT;
        }
        forces.examine(site.pose);
        return axis == 0 ? forces.momentX : forces.momentY;
    }

    public int nextStep() {
        return forces.examine(site.pose);
    }

    public int sideResistance(int side) {
        if (!isWithin(side, 0, SIDES - 1)) {
            return INVALID_ARGUMENT;
        }
        return forces.resistanceOfSide(side);
    }

    public int stuckDepth() {
        int load = 4 * (site.weight + site.totalBallast());
        int skinFactors = forces.sumOfSkinFactors();
        int edges = site.edgeCount();
        for (int depth = site.pose.depth; depth <= MOST_DEPTH; depth++) {
            int skin = skinFactors * site.ground.frictionAbove(depth);
            if (load <= skin + edges * forces.buoyancy(depth)) {
                return depth;
            }
        }
        return NONE;
    }

    public int ballastNeeded() {
        forces.examine(site.pose);
        return forces.excess > 0 ? 0 : -forces.excess / 4 + 1;
    }

    // ---- work

    public int dig(int cell, int amount) {
        if (!site.isWell(cell) || !isWithin(amount, 1, MOST_DIGGING)) {
            return INVALID_ARGUMENT;
        }
        int previous = site.pose.bottomOf(cell);
        int next = site.bottomAfterDigging(site.pose, cell, amount);
        if (next <= previous) {
            return ILLEGAL_STATE;
        }
        history.save(site);
        site.pose.putBottom(cell, next);
        writeRecord(DUG, cell);
        return next - previous;
    }

    public int settle(int steps) {
        if (!isWithin(steps, 1, MOST_STEPS)) {
            return INVALID_ARGUMENT;
        }
        if (forces.examine(site.pose) == Forces.HOLDS) {
            return ILLEGAL_STATE;
        }
        history.save(site);
        int made = forces.sink(site.pose, steps);
        writeRecord(SETTLED, made);
        return made;
    }

    public int setBallast(int cell, int ballast) {
        if (!site.isCell(cell) || !isWithin(ballast, 0, MOST_BALLAST)) {
            return INVALID_ARGUMENT;
        }
        int previous = site.ballastOf(cell);
        if (previous == ballast) {
            return ILLEGAL_STATE;
        }
        history.save(site);
        site.putBallast(cell, ballast);
        writeRecord(BALLASTED, cell);
        return previous;
    }

    public int lubricate(int side, int on) {
        if (!isWithin(side, 0, SIDES - 1) || !isWithin(on, 0, 1)) {
            return INVALID_ARGUMENT;
        }
        if (site.lubricated[side] == on) {
            return ILLEGAL_STATE;
        }
        history.save(site);
        site.lubricated[side] = on;
        writeRecord(LUBRICATED, side);
        return site.lubricatedSides();
    }

    public int blast(int cell, int charge) {
        if (!site.isCell(cell) || !isWithin(charge, 1, MOST_CHARGE)) {
            return INVALID_ARGUMENT;
        }
        int target = reachableBoulder(cell);
        if (target == NONE) {
            return ILLEGAL_STATE;
        }
        history.save(site);
        int left = site.boulders.weaken(target, charge);
        writeRecord(BLASTED, cell);
        return left;
    }

    public int pump(int depth) {
        if (!isWithin(depth, 0, MOST_WATER)) {
            return INVALID_ARGUMENT;
        }
        int previous = site.water;
        if (previous == depth) {
            return ILLEGAL_STATE;
        }
        history.save(site);
        site.water = depth;
        writeRecord(PUMPED, depth);
        return previous;
    }

    public int record(int record, int part) {
        return partOf(site.records, record, part);
    }

    // ---- what would be

    public int wouldSettle(int steps, int what) {
        if (!isWithin(steps, 1, MOST_STEPS) || !isWithin(what, 0, 3)) {
            return INVALID_ARGUMENT;
        }
        imagined.copyFrom(site.pose);
        int made = forces.sink(imagined, steps);
        switch (what) {
            case 0: return made;
            case 1: return imagined.tiltX + TILT_SHIFT;
            case 2: return imagined.tiltY + TILT_SHIFT;
            default: return forces.examine(imagined) == Forces.JAMS ? 1 : 0;
        }
    }

    public int bestWell(int amount) {
        if (!isWithin(amount, 1, MOST_DIGGING)) {
            return INVALID_ARGUMENT;
        }
        return forces.chooseWell(site.pose, amount);
    }

    public int makePlan(int target, int amount) {
        if (!isWithin(target, 1, MOST_DEPTH) || !isWithin(amount, 1, MOST_DIGGING)) {
            return INVALID_ARGUMENT;
        }
        if (site.pose.depth >= target) {
            return ILLEGAL_STATE;
        }
        wellsToDig.clear();
        plannedAmount = amount;
        imagined.copyFrom(site.pose);
        for (int k = 0; k < MOST_PLANNED_WELLS && imagined.depth < target; k++) {
            int well = forces.chooseWell(imagined, amount);
            if (well == NONE) {
                break;
            }
            imagined.copyFrom(forces.chosen);
            wellsToDig.insert(k, well, imagined.depth, imagined.tiltSum());
        }
        return wellsToDig.count;
    }

    public int plan(int k, int part) {
        return partOf(wellsToDig, k, part);
    }

    public int carryOut(int count) {
        if (!isWithin(count, 1, wellsToDig.count)) {
            return INVALID_ARGUMENT;
        }
        history.save(site);
        for (int k = 0; k < count; k++) {
            int cell = wellsToDig.get(k, 0);
            // A resize since the plan was made may have left an edge cell or no cell of this number.
            if (site.isWell(cell)) {
                site.pose.putBottom(cell, site.bottomAfterDigging(site.pose, cell, plannedAmount));
            }
            forces.sink(site.pose, PLANNED_STEPS);
        }
        return site.pose.depth;
    }

    public int highSide() {
        if (site.pose.tiltX == 0 && site.pose.tiltY == 0) {
            return NONE;
        }
        int highest = WEST;
        int least = forces.depthsOfSide(WEST);
        for (int side = EAST; side < SIDES; side++) {
            int sum = forces.depthsOfSide(side);
            // The means are compared crosswise, since a rounded mean would hide small differences.
            if (sum * site.lengthOfSide(highest) < least * site.lengthOfSide(side)) {
                highest = side;
                least = sum;
            }
        }
        return highest;
    }

    public int undo() {
        if (history.count == 0) {
            return ILLEGAL_STATE;
        }
        history.restore(site);
        return history.count;
    }

    // ---- helpers

    private static boolean isWithin(int value, int lowest, int highest) {
        return value >= lowest && value <= highest;
    }

    private void writeRecord(int kind, int number) {
        site.records.insert(0, kind, number, site.pose.depth);
    }

    private static int partOf(Triples list, int index, int part) {
        if (index < 0 || !isWithin(part, 0, PARTS - 1)) {
            return INVALID_ARGUMENT;
        }
        return list.has(index) ? list.get(index, part) : NONE;
    }

    private int reachableBoulder(int cell) {
        boolean isWell = site.isWell(cell);
        int from = isWell ? site.pose.bottomOf(cell) : 0;
        int reach = isWell ? from + 1
                : forces.edgeDepth(site.pose, site.columnOf(cell), site.rowOf(cell));
        int found = site.boulders.firstFrom(cell, from);
        if (found == NONE || site.boulders.depthOf(found) > reach) {
            return NONE;
        }
        return found;
    }

    /** A list of at most a fixed number of rows of three numbers each. */
    private static final class Triples {
        final int capacity;
        final int[] values;
        int count;

        Triples(int capacity) {
            this.capacity = Math.max(capacity, 1);
            this.values = new int[this.capacity * PARTS];
            this.count = 0;
        }

        void clear() {
            count = 0;
        }

        boolean isFull() {
            return count >= capacity;
        }

        boolean has(int index) {
            return index >= 0 && index < count;
        }

        int get(int index, int part) {
            if (index < 0 || index >= count || part < 0 || part >= PARTS) {
                return NONE;
            }
            return values[index * PARTS + part];
        }

        void set(int index, int part, int value) {
            if (index >= 0 && index < count && part >= 0 && part < PARTS) {
                values[index * PARTS + part] = value;
            }
        }

        /** In a full list the last row gives way. */
        void insert(int at, int first, int second, int third) {
            int kept = Math.min(count, capacity - 1);
            if (at < 0 || at > kept) {
                return;
            }
            int start = at * PARTS;
            System.arraycopy(values, start, values, start + PARTS, (kept - at) * PARTS);
            values[start] = first;
            values[start + 1] = second;
            values[start + 2] = third;
            count = kept + 1;
        }

        void remove(int at) {
            if (!has(at)) {
                return;
            }
            int start = at * PARTS;
            System.arraycopy(values, start + PARTS, values, start, (count - 1 - at) * PARTS);
            count--;
        }

        void copyFrom(Triples other) {
            int copied = Math.min(other.count, capacity);
            System.arraycopy(other.values, 0, values, 0, copied * PARTS);
            count = copied;
        }
    }

    /** The layers; a row has the depth at which the layer ends, its strength and its friction. */
    private static final class Ground {
        final Triples layers = new Triples(MOST_LAYERS);

        void addBelow(int thickness, int strength, int friction) {
            int start = layers.count == 0 ? 0 : layers.get(layers.count - 1, 0);
            layers.insert(layers.count, start + thickness, strength, friction);
        }

        int strengthAt(int depth) {
            int layer = layerAt(depth);
            return layer == NONE ? STRENGTH_BELOW_LAYERS : layers.get(layer, 1);
        }

        int frictionAt(int depth) {
            int layer = layerAt(depth);
            return layer == NONE ? FRICTION_BELOW_LAYERS : layers.get(layer, 2);
        }

        private int layerAt(int depth) {
            for (int i = 0; i < layers.count; i++) {
                if (depth < layers.values[i * PARTS]) {
                    return i;
                }
            }
            return NONE;
        }

        /** The sum of the frictions at the depths from 0 to depth - 1, a layer at a time. */
        int frictionAbove(int depth) {
            int sum = 0;
            int start = 0;
            for (int i = 0; i < layers.count; i++) {
                int end = layers.values[i * PARTS];
                int friction = layers.values[i * PARTS + 2];
                if (depth <= end) {
                    return sum + (depth - start) * friction;
                }
                sum += (end - start) * friction;
                start = end;
            }
            return sum + (depth - start) * FRICTION_BELOW_LAYERS;
        }
    }

    /** The boulders in their order; a row has the cell, the depth and the hardness. */
    private static final class Boulders {
        final Triples list = new Triples(MOST_BOULDERS);

        int depthOf(int index) {
            return list.get(index, 1);
        }

        boolean isTaken(int cell, int depth) {
            for (int i = 0; i < list.count; i++) {
                if (list.get(i, 0) == cell && list.get(i, 1) == depth) {
                    return true;
                }
            }
            return false;
        }

        /** The first boulder of the cell that lies at the depth or deeper. */
        int firstFrom(int cell, int depth) {
            int at = rankOf(cell, depth);
            return list.get(at, 0) == cell ? at : NONE;
        }

        int place(int cell, int depth, int hardness) {
            int at = rankOf(cell, depth);
            list.insert(at, cell, depth, hardness);
            return at;
        }

        int weaken(int index, int charge) {
            int left = list.get(index, 2) - charge;
            if (left <= 0) {
                list.remove(index);
                return 0;
            }
            list.set(index, 2, left);
            return left;
        }

        int hardnessDownTo(int cell, int depth) {
            int sum = 0;
            for (int i = 0; i < list.count; i++) {
                if (list.values[i * PARTS] == cell && list.values[i * PARTS + 1] <= depth) {
                    sum += list.values[i * PARTS + 2];
                }
            }
            return sum;
        }

        /** How many boulders come before one in this cell at this depth. */
        private int rankOf(int cell, int depth) {
            int rank = 0;
            for (int i = 0; i < list.count; i++) {
                int other = list.get(i, 0);
                if (other < cell || (other == cell && list.get(i, 1) < depth)) {
                    rank++;
                }
            }
            return rank;
        }
    }

    /** All that digging and settling change: position and bottoms, so that both can be imagined. */
    private static final class Pose {
        int depth;
        int tiltX;
        int tiltY;
        final int[] bottoms = new int[MOST_CELLS];

        void clear() {
            depth = 0;
            tiltX = 0;
            tiltY = 0;
            for (int cell = 0; cell < bottoms.length; cell++) {
                bottoms[cell] = 0;
            }
        }

        int bottomOf(int cell) {
            return cell >= 0 && cell < bottoms.length ? bottoms[cell] : 0;
        }

        void putBottom(int cell, int bottom) {
            if (cell >= 0 && cell < bottoms.length) {
                bottoms[cell] = bottom;
            }
        }

        int tiltSum() {
            return Math.abs(tiltX) + Math.abs(tiltY);
        }

        void copyFrom(Pose other) {
            depth = other.depth;
            tiltX = other.tiltX;
            tiltY = other.tiltY;
            System.arraycopy(other.bottoms, 0, bottoms, 0, bottoms.length);
        }
    }

    /** Caisson, ground and records: all that undo() brings back. */
    private static final class Site {
        int columns;
        int rows;
        int weight;
        int stiffness;
        int water;
        final int[] ballast = new int[MOST_CELLS];
        final int[] lubricated = new int[SIDES];
        final Pose pose = new Pose();
        final Ground ground = new Ground();
        final Boulders boulders = new Boulders();
        final Triples records = new Triples(MOST_RECORDS);

        Site() {
            beginAnew();
        }

        void beginAnew() {
            weight = FIRST_WEIGHT;
            stiffness = FIRST_STIFFNESS;
            water = FIRST_WATER;
            ground.layers.clear();
            records.clear();
            replaceCaisson(FIRST_COLUMNS, FIRST_ROWS);
        }

        void replaceCaisson(int newColumns, int newRows) {
            columns = newColumns;
            rows = newRows;
            pose.clear();
            boulders.list.clear();
            for (int cell = 0; cell < ballast.length; cell++) {
                ballast[cell] = 0;
            }
            for (int side = 0; side < lubricated.length; side++) {
                lubricated[side] = 0;
            }
        }

        void copyFrom(Site other) {
            columns = other.columns;
            rows = other.rows;
            weight = other.weight;
            stiffness = other.stiffness;
            water = other.water;
            System.arraycopy(other.ballast, 0, ballast, 0, ballast.length);
            System.arraycopy(other.lubricated, 0, lubricated, 0, lubricated.length);
            pose.copyFrom(other.pose);
            ground.layers.copyFrom(other.ground.layers);
            boulders.list.copyFrom(other.boulders.list);
            records.copyFrom(other.records);
        }

        boolean isCell(int cell) {
            return cell >= 0 && cell < columns * rows;
        }

        boolean isEdge(int cell) {
            return isCell(cell) && isEdgeAt(columnOf(cell), rowOf(cell));
        }

        boolean isWell(int cell) {
            return isCell(cell) && !isEdgeAt(columnOf(cell), rowOf(cell));
        }

        boolean isEdgeAt(int x, int y) {
            return x == 0 || x == columns - 1 || y == 0 || y == rows - 1;
        }

        boolean isOnSide(int side, int x, int y) {
            switch (side) {
                case WEST: return x == 0;
                case EAST: return x == columns - 1;
                case SOUTH: return y == 0;
                case NORTH: return y == rows - 1;
                default: return false;
            }
        }

        int lengthOfSide(int side) {
            return side == WEST || side == EAST ? rows : columns;
        }

        int edgeCount() {
            return 2 * (columns + rows) - 4;
        }

        int columnOf(int cell) {
            return columns > 0 ? cell % columns : 0;
        }

        int rowOf(int cell) {
            return columns > 0 ? cell / columns : 0;
        }

        int wellBeside(int x, int y) {
            int wellX = x == 0 ? 1 : x == columns - 1 ? columns - 2 : x;
            int wellY = y == 0 ? 1 : y == rows - 1 ? rows - 2 : y;
            return wellY * columns + wellX;
        }

        int ballastOf(int cell) {
            return cell >= 0 && cell < ballast.length ? ballast[cell] : 0;
        }

        void putBallast(int cell, int weight) {
            if (cell >= 0 && cell < ballast.length) {
                ballast[cell] = weight;
            }
        }

        int totalBallast() {
            int sum = 0;
            for (int cell = 0; cell < ballast.length; cell++) {
                sum += ballast[cell];
            }
            return sum;
        }

        int lubricatedSides() {
            int sum = 0;
            for (int side = 0; side < lubricated.length; side++) {
                sum += lubricated[side];
            }
            return sum;
        }

        int skinFactor(int x, int y) {
            boolean slippery = (x == 0 && lubricated[WEST] == 1)
                    || (x == columns - 1 && lubricated[EAST] == 1)
                    || (y == 0 && lubricated[SOUTH] == 1)
                    || (y == rows - 1 && lubricated[NORTH] == 1);
            return slippery ? 1 : 4;
        }

        int bottomAfterDigging(Pose from, int cell, int amount) {
            int present = from.bottomOf(cell);
            int limit = Math.min(from.depth + DIGGING_BELOW_EDGE, LOWEST_BOTTOM);
            int stopper = boulders.firstFrom(cell, present);
            if (stopper != NONE) {
                limit = Math.min(limit, boulders.depthOf(stopper));
            }
            return Math.max(present, Math.min(present + amount, limit));
        }
    }

    /** What weight and ground do to the caisson, in its own pose or in an imagined one. */
    private static final class Forces {
        static final int HOLDS = 0;
        static final int SINKS = 1;
        static final int JAMS = 2;

        final Site site = new Site();
        private final Pose trial = new Pose();
        final Pose chosen = new Pose();
        int excess;
        int momentX;
        int momentY;
        private int nextTiltX;
        private int nextTiltY;

        int edgeDepth(Pose pose, int x, int y) {
            int twice = pose.tiltX * (2 * x - site.columns + 1) + pose.tiltY * (2 * y - site.rows + 1);
            return Math.max(0, pose.depth + Math.floorDiv(twice, 2));
        }

        int support(Pose pose, int x, int y, int depth) {
            int times = depth - pose.bottomOf(site.wellBeside(x, y)) + 2;
            times = Math.max(0, Math.min(4, times));
            int cell = y * site.columns + x;
            return times * site.ground.strengthAt(depth)
                    + 4 * site.boulders.hardnessDownTo(cell, depth);
        }

        int skinForce(int x, int y, int depth) {
            return site.skinFactor(x, y) * site.ground.frictionAbove(depth);
        }

        int buoyancy(int depth) {
            return Math.max(0, depth - site.water);
        }

        int resistance(Pose pose, int x, int y) {
            int depth = edgeDepth(pose, x, y);
            return support(pose, x, y, depth) + skinForce(x, y, depth) + buoyancy(depth);
        }

        /** Leaves surplus, moments and the tilts after the next step in the fields. */
        int examine(Pose pose) {
            excess = 4 * site.weight;
            momentX = 0;
            momentY = 0;
            for (int y = 0; y < site.rows; y++) {
                for (int x = 0; x < site.columns; x++) {
                    int upward = -4 * site.ballastOf(y * site.columns + x);
                    if (site.isEdgeAt(x, y)) {
                        upward += resistance(pose, x, y);
                    }
                    excess -= upward;
                    momentX += (2 * x - site.columns + 1) * upward;
                    momentY += (2 * y - site.rows + 1) * upward;
                }
            }
            if (excess <= 0 || pose.depth >= MOST_DEPTH) {
                return HOLDS;
            }
            nextTiltX = pose.tiltX + turn(momentX);
            nextTiltY = pose.tiltY + turn(momentY);
            return Math.abs(nextTiltX) > MOST_TILT || Math.abs(nextTiltY) > MOST_TILT ? JAMS : SINKS;
        }

        private int turn(int moment) {
            if (moment > site.stiffness) {
                return -1;
            }
            return moment < -site.stiffness ? 1 : 0;
        }

        /** Where the caisson holds at once, nothing heaves either. */
        int sink(Pose pose, int steps) {
            int next = examine(pose);
            if (next == HOLDS) {
                return 0;
            }
            int made = 0;
            while (next == SINKS && made < steps) {
                pose.tiltX = nextTiltX;
                pose.tiltY = nextTiltY;
                pose.depth++;
                made++;
                next = examine(pose);
            }
            heave(pose);
            return made;
        }

        private void heave(Pose pose) {
            for (int y = 1; y < site.rows - 1; y++) {
                for (int x = 1; x < site.columns - 1; x++) {
                    int cell = y * site.columns + x;
                    int bottom = pose.bottomOf(cell);
                    int allowed = 4 + site.ground.strengthAt(bottom) / 5;
                    if (bottom - pose.depth > allowed) {
                        pose.putBottom(cell, pose.depth);
                    }
                }
            }
        }

        /** Leaves the pose to which the best well leads in chosen. */
        int chooseWell(Pose from, int amount) {
            int best = NONE;
            int cells = site.columns * site.rows;
            for (int cell = 0; cell < cells; cell++) {
                if (!site.isWell(cell)) {
                    continue;
                }
                int next = site.bottomAfterDigging(from, cell, amount);
                if (next <= from.bottomOf(cell)) {
                    continue;
                }
                trial.copyFrom(from);
                trial.putBottom(cell, next);
                sink(trial, PLANNED_STEPS);
                if (best == NONE || isBetterThanChosen(trial)) {
                    best = cell;
                    chosen.copyFrom(trial);
                }
            }
            return best;
        }

        private boolean isBetterThanChosen(Pose pose) {
            int difference = pose.tiltSum() - chosen.tiltSum();
            return difference < 0 || (difference == 0 && pose.depth > chosen.depth);
        }

        int resistanceOfSide(int side) {
            int sum = 0;
            for (int y = 0; y < site.rows; y++) {
                for (int x = 0; x < site.columns; x++) {
                    if (site.isOnSide(side, x, y)) {
                        sum += resistance(site.pose, x, y);
                    }
                }
            }
            return sum;
        }

        int depthsOfSide(int side) {
            int sum = 0;
            for (int y = 0; y < site.rows; y++) {
                for (int x = 0; x < site.columns; x++) {
                    if (site.isOnSide(side, x, y)) {
                        sum += edgeDepth(site.pose, x, y);
                    }
                }
            }
            return sum;
        }

        int sumOfSkinFactors() {
            int sum = 0;
            for (int y = 0; y < site.rows; y++) {
                for (int x = 0; x < site.columns; x++) {
                    if (site.isEdgeAt(x, y)) {
                        sum += site.skinFactor(x, y);
                    }
                }
            }
            return sum;
        }
    }

    /** The saved states, in a ring: the newest one stands before next. */
    private static final class History {
        private final Site[] saved = new Site[MOST_SAVED];
        private int next;
        int count;

        History() {
            for (int i = 0; i < MOST_SAVED; i++) {
                saved[i] = new Site();
            }
            next = 0;
            count = 0;
        }

        void save(Site site) {
            saved[Math.floorMod(next, MOST_SAVED)].copyFrom(site);
            next = Math.floorMod(next + 1, MOST_SAVED);
            count = Math.min(count + 1, MOST_SAVED);
        }

        void restore(Site site) {
            if (count > 0) {
                next = Math.floorMod(next - 1, MOST_SAVED);
                site.copyFrom(saved[next]);
                count--;
            }
        }
    }

    /** The text, and the reading of it from left to right, a token at a time. */
    private static final class Text {
        private static final int END = 0;
        private static final int WORD = 1;
        private static final int NUMBER = 2;
        private static final int SEMICOLON = 3;
        private static final int OTHER = 4;

        private static final int UNKNOWN = -1;
        private static final int PLAN = 0;
        private static final int WEIGHT = 1;
        private static final int WATER = 2;
        private static final int STIFF = 3;
        private static final int LAYER = 4;
        private static final int BOULDER = 5;

        private static final int MOST_DIGITS = 4;
        private static final int MOST_VALUES = 4;
        private static final int NO_NUMBER = -1;

        private final char[] characters = new char[MOST_CHARACTERS];
        int length;
        private int position;
        private int token;
        private int tokenStart;
        private int number;
        private final int[] values = new int[MOST_VALUES];

        void append(char character) {
            if (length < MOST_CHARACTERS) {
                characters[length] = character;
                length++;
            }
        }

        /** Answers the number of items, or -10 minus the error position. */
        int readInto(Site draft) {
            draft.beginAnew();
            position = 0;
            int items = 0;
            readToken();
            // Every item takes at least one character.
            while (token != END && items < length) {
                int kind = kindOfItem();
                if (!mayBegin(kind, items, draft) || !readValues(kind, draft) || !readSemicolon()) {
                    return TEXT_ERROR - tokenStart;
                }
                enter(kind, draft);
                items++;
                readToken();
            }
            return items;
        }

        private boolean mayBegin(int kind, int itemsBefore, Site draft) {
            switch (kind) {
                case PLAN: return itemsBefore == 0;
                case LAYER: return !draft.ground.layers.isFull();
                case BOULDER: return !draft.boulders.list.isFull();
                default: return kind != UNKNOWN;
            }
        }

        private boolean readValues(int kind, Site draft) {
            int wanted = kind == BOULDER ? 4 : kind == LAYER ? 3 : kind == PLAN ? 2 : 1;
            for (int i = 0; i < wanted; i++) {
                readToken();
                if (token != NUMBER || !isAllowed(kind, i, draft)) {
                    return false;
                }
                values[i] = number;
            }
            return true;
        }

        private boolean readSemicolon() {
            readToken();
            return token == SEMICOLON;
        }

        private boolean isAllowed(int kind, int place, Site draft) {
            switch (kind) {
                case PLAN: return isWithin(number, LEAST_LENGTH, MOST_LENGTH);
                case WEIGHT: return isWithin(number, 1, MOST_WEIGHT);
                case WATER: return isWithin(number, 0, MOST_WATER);
                case STIFF: return isWithin(number, 0, MOST_STIFFNESS);
                case LAYER: return isAllowedInLayer(place);
                case BOULDER: return isAllowedInBoulder(place, draft);
                default: return false;
            }
        }

        private boolean isAllowedInLayer(int place) {
            switch (place) {
                case 0: return isWithin(number, 1, MOST_THICKNESS);
                case 1: return isWithin(number, 0, MOST_STRENGTH);
                default: return isWithin(number, 0, MOST_FRICTION);
            }
        }

        private boolean isAllowedInBoulder(int place, Site draft) {
            switch (place) {
                case 0: return isWithin(number, 0, draft.columns - 1);
                case 1: return isWithin(number, 0, draft.rows - 1);
                case 2: return isWithin(number, 1, MOST_DEPTH)
                        && !draft.boulders.isTaken(cellInValues(draft), number);
                default: return isWithin(number, 1, MOST_HARDNESS);
            }
        }

        private int cellInValues(Site draft) {
            return values[1] * draft.columns + values[0];
        }

        private void enter(int kind, Site draft) {
            switch (kind) {
                case PLAN:
                    draft.replaceCaisson(values[0], values[1]);
                    break;
                case WEIGHT:
                    draft.weight = values[0];
                    break;
                case WATER:
                    draft.water = values[0];
                    break;
                case STIFF:
                    draft.stiffness = values[0];
                    break;
                case LAYER:
                    draft.ground.addBelow(values[0], values[1], values[2]);
                    break;
                default:
                    draft.boulders.place(cellInValues(draft), values[2], values[3]);
                    break;
            }
        }

        /** At the end of the text, the start of the token is the length of the text. */
        private void readToken() {
            while (position < length && characters[position] == ' ') {
                position++;
            }
            tokenStart = position;
            if (position >= length) {
                token = END;
            } else if (isLetter(characters[position])) {
                token = WORD;
                while (position < length && isLetter(characters[position])) {
                    position++;
                }
            } else if (isDigit(characters[position])) {
                readNumber();
            } else {
                token = characters[position] == ';' ? SEMICOLON : OTHER;
                position++;
            }
        }

        /** A number of a wrong form becomes one that is in no range. */
        private void readNumber() {
            token = NUMBER;
            number = 0;
            while (position < length && isDigit(characters[position])) {
                if (position - tokenStart < MOST_DIGITS) {
                    number = number * 10 + (characters[position] - '0');
                }
                position++;
            }
            int digits = position - tokenStart;
            if (digits > MOST_DIGITS || (digits > 1 && characters[tokenStart] == '0')) {
                number = NO_NUMBER;
            }
        }

        private static boolean isLetter(char character) {
            return character >= 'a' && character <= 'z';
        }

        private static boolean isDigit(char character) {
            return character >= '0' && character <= '9';
        }

        private int kindOfItem() {
            if (isWord("plan")) {
                return PLAN;
            }
            if (isWord("weight")) {
                return WEIGHT;
            }
            if (isWord("water")) {
                return WATER;
            }
            if (isWord("stiff")) {
                return STIFF;
            }
            if (isWord("layer")) {
                return LAYER;
            }
            return isWord("boulder") ? BOULDER : UNKNOWN;
        }

        private boolean isWord(String word) {
            if (token != WORD || position - tokenStart != word.length()) {
                return false;
            }
            for (int i = 0; i < word.length(); i++) {
                if (characters[tokenStart + i] != word.charAt(i)) {
                    return false;
                }
            }
            return true;
        }
    }
}
