import java.util.Arrays;
import java.util.NoSuchElementException;

/** A simulation of travellers who cross a marsh by following lights, some of which are false. */
public final class FalseLightMarsh {

    private static final String FIRST_TEXT = "marsh 4 3 clear 4;row fffh;row fwwf;row ffpf;";

    private static final int NONE = -1;
    private static final int MIN_SIDE = 2;
    private static final int MAX_SIDE = 12;
    private static final int MAX_CELLS = MAX_SIDE * MAX_SIDE;
    private static final int MAX_LIGHTS = 8;
    private static final int MAX_BRIGHTNESS = 9;
    private static final int MAX_TRAVELLERS = 6;
    private static final int MAX_TIME = 9999;
    private static final int MAX_COUNT = 100;
    private static final int MAX_FUTURE = 300;
    private static final int HOURS = 24;
    private static final int MAX_CLEARNESS = 20;
    private static final int MAX_FOG = 9;
    private static final int MAX_CHANGES = 8;
    private static final int SLOTS = 2;
    private static final int MAX_TEXT = 800;
    private static final int APPENDED = 20;
    private static final int MAX_PRINTED = MAX_SIDE * (MAX_SIDE + 1);

    // A plank is held as its strength, so that a plank worn down to 0 is water without more ado.
    private static final int WATER = 0;
    private static final int TEXT_STRENGTH = 3;
    private static final int MAX_STRENGTH = 9;
    private static final int FIRM = 10;
    private static final int HUT = 11;

    private static final int WALKING = 0;
    private static final int ARRIVED = 1;
    private static final int SUNK = 2;

    // Up, right, down, left: the order in which the document prefers steps.
    private static final int DIRECTIONS = 4;
    private static final int[] STEP_X = {0, 1, 0, -1};
    private static final int[] STEP_Y = {-1, 0, 1, 0};

    private final World world;
    private final World draft;
    private final History history;
    private final World[] snapshots;
    private final boolean[] saved;
    private final TextReader reader;
    private final Simulation simulation;
    private final Distances distances;
    private final byte[] printed;
    private int printedLength;
    private int error;

    public FalseLightMarsh() {
        world = new World();
        draft = new World();
        history = new History();
        snapshots = new World[SLOTS];
        for (int slot = 0; slot < SLOTS; slot++) {
            snapshots[slot] = new World();
        }
        saved = new boolean[SLOTS];
        reader = new TextReader();
        simulation = new Simulation();
        distances = new Distances();
        printed = new byte[MAX_PRINTED];
        printedLength = 0;
        reader.putText(FIRST_TEXT);
        error = reader.readInto(world);
        reader.cutTo(0);
    }

    // ---- input

    public int append(int a, int b, int c, int d, int e) throws IllegalStateException {
        if (reader.length + APPENDED > MAX_TEXT) {
            throw new IllegalStateException("the input buffer is full");
        }
        reader.putInt(a);
        reader.putInt(b);
        reader.putInt(c);
        reader.putInt(d);
        reader.putInt(e);
        return reader.length;
    }

    public int shorten(int length) throws IllegalArgumentException {
        if (length < 0 || length > reader.length) {
            throw new IllegalArgumentException("no such length");
        }
        reader.cutTo(length);
        return length;
    }

    public int load() throws IllegalArgumentException {
        error = reader.readInto(draft);
        reader.cutTo(0);
        if (error != NONE) {
            throw new IllegalArgumentException("the text has an error");
        }
        world.copyFrom(draft);
        history.forgetAll();
        for (int slot = 0; slot < SLOTS; slot++) {
            saved[slot] = false;
        }
        return world.travellers.count;
    }

    public boolean hasError() {
        return error != NONE;
    }

    public int errorOffset() throws NoSuchElementException {
        if (error == NONE) {
            throw new NoSuchElementException("no error");
        }
        return error;
    }

    // ---- the marsh

    public int width() {
        return world.ground.columns;
    }

    public int height() {
        return world.ground.rows;
    }

    public boolean isWater(int x, int y) throws IndexOutOfBoundsException {
        return world.ground.cells[requireCell(x, y)] == WATER;
    }

    public boolean isHut(int x, int y) throws IndexOutOfBoundsException {
        return world.ground.cells[requireCell(x, y)] == HUT;
    }

    public boolean isPlank(int x, int y) throws IndexOutOfBoundsException {
        return world.ground.holdsPlank(requireCell(x, y));
    }

    public int plankStrength(int x, int y) throws IndexOutOfBoundsException, NoSuchElementException {
        int cell = requireCell(x, y);
        if (!world.ground.holdsPlank(cell)) {
            throw new NoSuchElementException("no plank");
        }
        return world.ground.cells[cell];
    }

    public int plankCount() {
        return world.ground.countPlanks();
    }

    public int pathLength(int fromX, int fromY, int toX, int toY)
            throws IndexOutOfBoundsException, NoSuchElementException {
        int from = requireCell(fromX, fromY);
        int to = requireCell(toX, toY);
        distances.measureToCell(world.ground, to);
        return requirePath(distances.steps[from]);
    }

    public int stepsToHut(int x, int y) throws IndexOutOfBoundsException, NoSuchElementException {
        int from = requireCell(x, y);
        distances.measureToHuts(world.ground);
        return requirePath(distances.steps[from]);
    }

    public int time() {
        return world.time;
    }

    public int clearness() {
        return world.clearness;
    }

    public int fog(int hour) throws IndexOutOfBoundsException {
        requireHour(hour);
        return world.fog[hour];
    }

    public int sight() {
        return world.sightNow();
    }

    // ---- lights

    public int lightCount() {
        return world.lights.count;
    }

    public int lightColumn(int light) throws IndexOutOfBoundsException {
        requireLight(light);
        return columnOf(world.lights.cell[light]);
    }

    public int lightRow(int light) throws IndexOutOfBoundsException {
        requireLight(light);
        return rowOf(world.lights.cell[light]);
    }

    public int brightness(int light) throws IndexOutOfBoundsException {
        requireLight(light);
        return world.lights.bright[light];
    }

    public boolean isTrueLight(int light) throws IndexOutOfBoundsException {
        requireLight(light);
        return holds(world.lights.trueSet, light);
    }

    public boolean hasSuccessor(int light) throws IndexOutOfBoundsException {
        requireLight(light);
        return world.lights.next[light] != NONE;
    }

    public int successor(int light) throws IndexOutOfBoundsException, NoSuchElementException {
        requireLight(light);
        return requireSuccessor(light);
    }

    public int followers(int light) throws IndexOutOfBoundsException {
        requireLight(light);
        return world.travellers.countFollowing(light);
    }

    public boolean leadsAstray(int light) throws IndexOutOfBoundsException {
        requireLight(light);
        return world.lights.goesWrong(light);
    }

    // ---- travellers

    public int travellerCount() {
        return world.travellers.count;
    }

    public int travellerColumn(int traveller) throws IndexOutOfBoundsException {
        requireTraveller(traveller);
        return columnOf(world.travellers.cell[traveller]);
    }

    public int travellerRow(int traveller) throws IndexOutOfBoundsException {
        requireTraveller(traveller);
        return rowOf(world.travellers.cell[traveller]);
    }

    public boolean isWalking(int traveller) throws IndexOutOfBoundsException {
        requireTraveller(traveller);
        return world.travellers.state[traveller] == WALKING;
    }

    public boolean hasArrived(int traveller) throws IndexOutOfBoundsException {
        requireTraveller(traveller);
        return world.travellers.state[traveller] == ARRIVED;
    }

    public boolean hasSunk(int traveller) throws IndexOutOfBoundsException {
        requireTraveller(traveller);
        return world.travellers.state[traveller] == SUNK;
    }

    public int stepsTaken(int traveller) throws IndexOutOfBoundsException {
        requireTraveller(traveller);
        return world.travellers.steps[traveller];
    }

    public boolean hasTarget(int traveller) throws IndexOutOfBoundsException {
        requireTraveller(traveller);
        return world.travellers.goal[traveller] != NONE;
    }

    public int target(int traveller) throws IndexOutOfBoundsException, NoSuchElementException {
        requireTraveller(traveller);
        int light = world.travellers.goal[traveller];
        if (light == NONE) {
            throw new NoSuchElementException("no target");
        }
        return light;
    }

    public boolean hasPassed(int traveller, int light) throws IndexOutOfBoundsException {
        requireTraveller(traveller);
        requireLight(light);
        return holds(world.travellers.passed[traveller], light);
    }

    public boolean distrusts(int traveller, int light) throws IndexOutOfBoundsException {
        requireTraveller(traveller);
        requireLight(light);
        return holds(world.travellers.distrusted[traveller], light);
    }

    public boolean sees(int traveller, int light) throws IndexOutOfBoundsException {
        requireTraveller(traveller);
        requireLight(light);
        return world.distanceTo(traveller, light) <= world.sightNow() + world.lights.bright[light];
    }

    public int nearestLight(int traveller) throws IndexOutOfBoundsException, NoSuchElementException {
        requireTraveller(traveller);
        int light = world.nearestAcceptable(traveller);
        if (light == NONE) {
            throw new NoSuchElementException("no light is acceptable");
        }
        return light;
    }

    public int walkingCount() {
        return world.travellers.countIn(WALKING);
    }

    public int arrivedCount() {
        return world.travellers.countIn(ARRIVED);
    }

    public int sunkCount() {
        return world.travellers.countIn(SUNK);
    }

    public float arrivedShare() {
        int all = world.travellers.count;
        if (all == 0) {
            return 0.0f;
        }
        return (float) world.travellers.countIn(ARRIVED) / (float) all;
    }

    public double meanSteps() {
        int all = world.travellers.count;
        if (all == 0) {
            return 0.0;
        }
        return (double) world.travellers.sumOfSteps() / (double) all;
    }

    // ---- the future

    public int ticksUntilDone(int traveller)
            throws IndexOutOfBoundsException, IllegalStateException, NoSuchElementException {
        requireTraveller(traveller);
        requireWalking(traveller);
        draft.copyFrom(world);
        simulation.run(draft, MAX_FUTURE);
        if (draft.travellers.state[traveller] == WALKING) {
            throw new NoSuchElementException("still walking");
        }
        return draft.travellers.doneAt[traveller] - world.time;
    }

    public boolean willArrive(int traveller) throws IndexOutOfBoundsException {
        requireTraveller(traveller);
        draft.copyFrom(world);
        simulation.run(draft, MAX_FUTURE);
        return draft.travellers.state[traveller] == ARRIVED;
    }

    public int arrivedAfter(int ticks) throws IllegalArgumentException {
        requireFuture(ticks);
        draft.copyFrom(world);
        simulation.run(draft, ticks);
        return draft.travellers.countIn(ARRIVED);
    }

    public int sunkAfter(int ticks) throws IllegalArgumentException {
        requireFuture(ticks);
        draft.copyFrom(world);
        simulation.run(draft, ticks);
        return draft.travellers.countIn(SUNK);
    }

    public int bestClearness() {
        int best = 0;
        int most = NONE;
        for (int clear = 0; clear <= MAX_CLEARNESS; clear++) {
            draft.copyFrom(world);
            draft.clearness = clear;
            simulation.run(draft, MAX_FUTURE);
            int arrived = draft.travellers.countIn(ARRIVED);
            if (arrived > most) {
                most = arrived;
                best = clear;
            }
        }
        return best;
    }

    // ---- changes

    public int tick(int count) throws IllegalArgumentException, IllegalStateException {
        if (count < 1 || count > MAX_COUNT) {
            throw new IllegalArgumentException("count is out of range");
        }
        if (world.time + count > MAX_TIME) {
            throw new IllegalStateException("the time would exceed its limit");
        }
        history.remember(world);
        int before = world.travellers.countIn(ARRIVED);
        simulation.run(world, count);
        return world.travellers.countIn(ARRIVED) - before;
    }

    public int addLight(int x, int y, int brightness, boolean isTrue)
            throws IndexOutOfBoundsException, IllegalArgumentException, IllegalStateException {
        int cell = requireCell(x, y);
        if (brightness < 0 || brightness > MAX_BRIGHTNESS) {
            throw new IllegalArgumentException("brightness is out of range");
        }
        if (world.lights.count >= MAX_LIGHTS || !world.takesLight(cell)) {
            throw new IllegalStateException("no light can be added here");
        }
        history.remember(world);
        return world.lights.put(cell, brightness, isTrue);
    }

    public int addTraveller(int x, int y) throws IndexOutOfBoundsException, IllegalStateException {
        int cell = requireCell(x, y);
        if (world.travellers.count >= MAX_TRAVELLERS || !world.ground.takesTraveller(cell)) {
            throw new IllegalStateException("no traveller can be added here");
        }
        history.remember(world);
        return world.travellers.put(cell);
    }

    public int setSuccessor(int light, int next) throws IndexOutOfBoundsException, IllegalArgumentException {
        requireLight(light);
        requireLight(next);
        if (light == next) {
            throw new IllegalArgumentException("a light cannot succeed itself");
        }
        history.remember(world);
        world.lights.next[light] = next;
        return world.lights.countWrong();
    }

    public int clearSuccessor(int light) throws IndexOutOfBoundsException, NoSuchElementException {
        requireLight(light);
        int previous = requireSuccessor(light);
        history.remember(world);
        world.lights.next[light] = NONE;
        return previous;
    }

    public int layPlank(int x, int y, int strength)
            throws IndexOutOfBoundsException, IllegalArgumentException, IllegalStateException {
        int cell = requireCell(x, y);
        if (strength < 1 || strength > MAX_STRENGTH) {
            throw new IllegalArgumentException("strength is out of range");
        }
        if (world.ground.cells[cell] == FIRM || world.ground.cells[cell] == HUT) {
            throw new IllegalStateException("a plank needs water or a plank");
        }
        history.remember(world);
        world.ground.cells[cell] = strength;
        return world.ground.countPlanks();
    }

    public int setClearness(int clearness) throws IllegalArgumentException {
        if (clearness < 0 || clearness > MAX_CLEARNESS) {
            throw new IllegalArgumentException("clearness is out of range");
        }
        history.remember(world);
        int previous = world.clearness;
        world.clearness = clearness;
        return previous;
    }

    public int setFog(int hour, int fog) throws IndexOutOfBoundsException, IllegalArgumentException {
        requireHour(hour);
        if (fog < 0 || fog > MAX_FOG) {
            throw new IllegalArgumentException("fog is out of range");
        }
        history.remember(world);
        int previous = world.fog[hour];
        world.fog[hour] = fog;
        return previous;
    }

    public int setTarget(int traveller, int light) throws IndexOutOfBoundsException, IllegalStateException {
        requireTraveller(traveller);
        requireLight(light);
        requireWalking(traveller);
        history.remember(world);
        world.travellers.goal[traveller] = light;
        return world.distanceTo(traveller, light);
    }

    public int undo() throws IllegalStateException {
        if (history.count == 0) {
            throw new IllegalStateException("nothing to undo");
        }
        history.restoreLatest(world);
        return history.count;
    }

    public int saveSnapshot(int slot) throws IndexOutOfBoundsException {
        requireSlot(slot);
        snapshots[slot].copyFrom(world);
        saved[slot] = true;
        return world.time;
    }

    public int restoreSnapshot(int slot) throws IndexOutOfBoundsException, NoSuchElementException {
        requireSlot(slot);
        if (!saved[slot]) {
            throw new NoSuchElementException("the slot is empty");
        }
        history.remember(world);
        world.copyFrom(snapshots[slot]);
        return world.time;
    }

    // ---- printing

    public int print() {
        int length = 0;
        for (int y = 0; y < world.ground.rows; y++) {
            for (int x = 0; x < world.ground.columns; x++) {
                printed[length] = world.signOf(cellAt(x, y));
                length++;
            }
            printed[length] = '\n';
            length++;
        }
        printedLength = length;
        return length;
    }

    public int printedByte(int index) throws IndexOutOfBoundsException {
        if (index < 0 || index >= printedLength) {
            throw new IndexOutOfBoundsException("no such byte");
        }
        return printed[index];
    }

    // ---- what calls require of their arguments

    private int requireCell(int x, int y) throws IndexOutOfBoundsException {
        if (!world.ground.contains(x, y)) {
            throw new IndexOutOfBoundsException("no such cell");
        }
        return cellAt(x, y);
    }

    private void requireHour(int hour) throws IndexOutOfBoundsException {
        if (hour < 0 || hour >= HOURS) {
            throw new IndexOutOfBoundsException("no such hour");
        }
    }

    private void requireLight(int light) throws IndexOutOfBoundsException {
        if (!world.lights.contains(light)) {
            throw new IndexOutOfBoundsException("no such light");
        }
    }

    private void requireTraveller(int traveller) throws IndexOutOfBoundsException {
        if (traveller < 0 || traveller >= world.travellers.count) {
            throw new IndexOutOfBoundsException("no such traveller");
        }
    }

    private void requireSlot(int slot) throws IndexOutOfBoundsException {
        if (slot < 0 || slot >= SLOTS) {
            throw new IndexOutOfBoundsException("no such slot");
        }
    }

    private void requireWalking(int traveller) throws IllegalStateException {
        if (world.travellers.state[traveller] != WALKING) {
            throw new IllegalStateException("the traveller is not walking");
        }
    }

    private int requireSuccessor(int light) throws NoSuchElementException {
        int next = world.lights.next[light];
        if (next == NONE) {
            throw new NoSuchElementException("no successor");
        }
        return next;
    }

    private static int requirePath(int steps) throws NoSuchElementException {
        if (steps == NONE) {
            throw new NoSuchElementException("no path");
        }
        return steps;
    }

    private static void requireFuture(int ticks) throws IllegalArgumentException {
        if (ticks < 0 || ticks > MAX_FUTURE) {
            throw new IllegalArgumentException("ticks is out of range");
        }
    }

    // ---- small helps for all classes

    // A row is always as long as the widest marsh's, so that a cell's number does not depend on the width.
    private static int cellAt(int x, int y) {
        return y * MAX_SIDE + x;
    }

    private static int columnOf(int cell) {
        return cell % MAX_SIDE;
    }

    private static int rowOf(int cell) {
        return cell / MAX_SIDE;
    }

    private static boolean holds(int set, int light) {
        return (set >> light & 1) != 0;
    }

    private static void copyNumbers(int[] from, int[] to) {
        System.arraycopy(from, 0, to, 0, Math.min(from.length, to.length));
    }

    /** The cells of the grid. */
    private static final class Ground {
        int columns;
        int rows;
        final int[] cells;

        Ground() {
            cells = new int[MAX_CELLS];
        }

        void copyFrom(Ground other) {
            columns = other.columns;
            rows = other.rows;
            copyNumbers(other.cells, cells);
        }

        boolean contains(int x, int y) {
            return x >= 0 && x < columns && y >= 0 && y < rows;
        }

        boolean holdsPlank(int cell) {
            return cells[cell] > WATER && cells[cell] <= MAX_STRENGTH;
        }

        boolean takesTraveller(int cell) {
            return cells[cell] != WATER && cells[cell] != HUT;
        }

        int countPlanks() {
            int planks = 0;
            for (int y = 0; y < rows; y++) {
                for (int x = 0; x < columns; x++) {
                    if (holdsPlank(cellAt(x, y))) {
                        planks++;
                    }
                }
            }
            return planks;
        }

        /** The adjacent cell in a direction, NONE beyond the edge. */
        int neighbour(int cell, int direction) {
            int x = cell % MAX_SIDE + STEP_X[direction];
            int y = cell / MAX_SIDE + STEP_Y[direction];
            boolean inside = x >= 0 && x < columns && y >= 0 && y < rows;
            return inside ? y * MAX_SIDE + x : NONE;
        }

        /** Wears the plank that is left, if it is one; returns whether it broke. */
        boolean wear(int cell) {
            if (!holdsPlank(cell)) {
                return false;
            }
            cells[cell]--;
            return cells[cell] == WATER;
        }

        byte letterOf(int cell) {
            switch (cells[cell]) {
                case WATER:
                    return 'w';
                case FIRM:
                    return 'f';
                case HUT:
                    return 'h';
                default:
                    return 'p';
            }
        }
    }

    /** The lights, in the order of their numbers. */
    private static final class Lights {
        int count;
        int trueSet;
        final int[] cell;
        final int[] bright;
        final int[] next;

        Lights() {
            cell = new int[MAX_LIGHTS];
            bright = new int[MAX_LIGHTS];
            next = new int[MAX_LIGHTS];
        }

        void copyFrom(Lights other) {
            count = other.count;
            trueSet = other.trueSet;
            copyNumbers(other.cell, cell);
            copyNumbers(other.bright, bright);
            copyNumbers(other.next, next);
        }

        void removeAll() {
            count = 0;
            trueSet = 0;
        }

        boolean contains(int light) {
            return light >= 0 && light < count;
        }

        int onCell(int place) {
            for (int light = 0; light < count; light++) {
                if (cell[light] == place) {
                    return light;
                }
            }
            return NONE;
        }

        /** Adds a light without a successor where there is room; returns its number. */
        int put(int place, int brightness, boolean isTrue) {
            if (count >= MAX_LIGHTS) {
                return NONE;
            }
            int light = count;
            cell[light] = place;
            bright[light] = brightness;
            next[light] = NONE;
            if (isTrue) {
                trueSet |= 1 << light;
            }
            count++;
            return light;
        }

        boolean goesWrong(int light) {
            int visited = 0;
            int here = light;
            // After as many lights as there are at most, the next one was visited before.
            for (int n = 0; n <= MAX_LIGHTS && contains(here); n++) {
                if (holds(visited, here) || !holds(trueSet, here)) {
                    return true;
                }
                visited |= 1 << here;
                here = next[here];
            }
            return false;
        }

        int countWrong() {
            int wrong = 0;
            for (int light = 0; light < count; light++) {
                if (goesWrong(light)) {
                    wrong++;
                }
            }
            return wrong;
        }
    }

    /** The travellers, in the order of their numbers. */
    private static final class Travellers {
        int count;
        final int[] cell;
        final int[] state;
        final int[] steps;
        final int[] goal;
        final int[] passed;
        final int[] distrusted;
        // The time at which a traveller arrived or sank; free while the traveller walks.
        final int[] doneAt;

        Travellers() {
            cell = new int[MAX_TRAVELLERS];
            state = new int[MAX_TRAVELLERS];
            steps = new int[MAX_TRAVELLERS];
            goal = new int[MAX_TRAVELLERS];
            passed = new int[MAX_TRAVELLERS];
            distrusted = new int[MAX_TRAVELLERS];
            doneAt = new int[MAX_TRAVELLERS];
        }

        void copyFrom(Travellers other) {
            count = other.count;
            copyNumbers(other.cell, cell);
            copyNumbers(other.state, state);
            copyNumbers(other.steps, steps);
            copyNumbers(other.goal, goal);
            copyNumbers(other.passed, passed);
            copyNumbers(other.distrusted, distrusted);
            copyNumbers(other.doneAt, doneAt);
        }

        /** Adds a walking traveller where there is room; returns its number. */
        int put(int place) {
            if (count >= MAX_TRAVELLERS) {
                return NONE;
            }
            int traveller = count;
            cell[traveller] = place;
            state[traveller] = WALKING;
            steps[traveller] = 0;
            goal[traveller] = NONE;
            passed[traveller] = 0;
            distrusted[traveller] = 0;
            count++;
            return traveller;
        }

        void finish(int traveller, int end, int time) {
            state[traveller] = end;
            goal[traveller] = NONE;
            doneAt[traveller] = time;
        }

        boolean shuns(int traveller, int light) {
            return holds(passed[traveller] | distrusted[traveller], light);
        }

        int countIn(int wanted) {
            int found = 0;
            for (int traveller = 0; traveller < count; traveller++) {
                if (state[traveller] == wanted) {
                    found++;
                }
            }
            return found;
        }

        int countFollowing(int light) {
            int found = 0;
            for (int traveller = 0; traveller < count; traveller++) {
                if (state[traveller] == WALKING && goal[traveller] == light) {
                    found++;
                }
            }
            return found;
        }

        int sumOfSteps() {
            int sum = 0;
            for (int traveller = 0; traveller < count; traveller++) {
                sum += steps[traveller];
            }
            return sum;
        }

        int lowestWalkingOn(int place) {
            for (int traveller = 0; traveller < count; traveller++) {
                if (state[traveller] == WALKING && cell[traveller] == place) {
                    return traveller;
                }
            }
            return NONE;
        }
    }

    /** All that a change changes and undo restores. */
    private static final class World {
        final Ground ground;
        final Lights lights;
        final Travellers travellers;
        final int[] fog;
        int clearness;
        int time;

        World() {
            ground = new Ground();
            lights = new Lights();
            travellers = new Travellers();
            fog = new int[HOURS];
        }

        void copyFrom(World other) {
            ground.copyFrom(other.ground);
            lights.copyFrom(other.lights);
            travellers.copyFrom(other.travellers);
            copyNumbers(other.fog, fog);
            clearness = other.clearness;
            time = other.time;
        }

        void startAnew(int columns, int rows) {
            ground.columns = columns;
            ground.rows = rows;
            lights.removeAll();
            travellers.count = 0;
            Arrays.fill(fog, 0);
            time = 0;
        }

        int sightNow() {
            return Math.max(0, clearness - fog[time % HOURS]);
        }

        int distanceTo(int traveller, int light) {
            int from = travellers.cell[traveller];
            int to = lights.cell[light];
            return Math.abs(from % MAX_SIDE - to % MAX_SIDE) + Math.abs(from / MAX_SIDE - to / MAX_SIDE);
        }

        int nearestAcceptable(int traveller) {
            int sight = sightNow();
            int nearest = NONE;
            int least = 0;
            for (int light = 0; light < lights.count; light++) {
                if (!travellers.shuns(traveller, light)) {
                    int distance = distanceTo(traveller, light);
                    if (distance <= sight + lights.bright[light] && (nearest == NONE || distance < least)) {
                        nearest = light;
                        least = distance;
                    }
                }
            }
            return nearest;
        }

        boolean takesLight(int cell) {
            return ground.cells[cell] != WATER && lights.onCell(cell) == NONE;
        }

        byte signOf(int cell) {
            int traveller = travellers.lowestWalkingOn(cell);
            if (traveller != NONE) {
                return (byte) ('0' + traveller);
            }
            return lights.onCell(cell) != NONE ? (byte) '*' : ground.letterOf(cell);
        }
    }

    /** The lengths of the shortest paths from all cells to the nearest of some goals. */
    private static final class Distances {
        final int[] steps;
        boolean known;
        private final int[] queue;
        private int queued;

        Distances() {
            steps = new int[MAX_CELLS];
            queue = new int[MAX_CELLS];
        }

        void measureToCell(Ground ground, int goal) {
            forgetPaths();
            reach(ground, goal, 0);
            spread(ground);
        }

        void measureToHuts(Ground ground) {
            forgetPaths();
            for (int y = 0; y < ground.rows; y++) {
                for (int x = 0; x < ground.columns; x++) {
                    int cell = cellAt(x, y);
                    if (ground.cells[cell] == HUT) {
                        reach(ground, cell, 0);
                    }
                }
            }
            spread(ground);
        }

        private void forgetPaths() {
            Arrays.fill(steps, NONE);
            queued = 0;
        }

        // The search goes backwards from the goals. A path may start on water but not lead over
        // it, so water gets a distance, but nothing is reached through it.
        private void spread(Ground ground) {
            for (int head = 0; head < MAX_CELLS && head < queued; head++) {
                int cell = queue[head];
                for (int direction = 0; direction < DIRECTIONS; direction++) {
                    int from = ground.neighbour(cell, direction);
                    if (from != NONE) {
                        reach(ground, from, steps[cell] + 1);
                    }
                }
            }
            known = true;
        }

        private void reach(Ground ground, int cell, int length) {
            if (steps[cell] != NONE) {
                return;
            }
            steps[cell] = length;
            if (ground.cells[cell] != WATER && queued < MAX_CELLS) {
                queue[queued] = cell;
                queued++;
            }
        }

        /** The cell after this one on the preferred shortest path, NONE without a path or at a goal. */
        int nextCell(Ground ground, int cell) {
            if (steps[cell] < 1) {
                return NONE;
            }
            for (int direction = 0; direction < DIRECTIONS; direction++) {
                int next = ground.neighbour(cell, direction);
                if (next != NONE && ground.cells[next] != WATER && steps[next] == steps[cell] - 1) {
                    return next;
                }
            }
            return NONE;
        }
    }

    /** Lets ticks pass in a world. */
    private static final class Simulation {
        // Measured once for each light, and again only after a plank broke: nothing else closes a way.
        private final Distances[] ways;

        Simulation() {
            ways = new Distances[MAX_LIGHTS];
            for (int light = 0; light < MAX_LIGHTS; light++) {
                ways[light] = new Distances();
            }
        }

        void run(World world, int ticks) {
            int end = world.time + ticks;
            int idle = 0;
            forgetWays();
            // When nobody has done anything for a whole day, nobody ever will: only the hour counts now.
            for (int n = 0; n < ticks && idle < HOURS; n++) {
                world.time++;
                idle++;
                for (int traveller = 0; traveller < world.travellers.count; traveller++) {
                    if (world.travellers.state[traveller] == WALKING && act(world, traveller)) {
                        idle = 0;
                    }
                }
            }
            world.time = end;
        }

        private void forgetWays() {
            for (int light = 0; light < MAX_LIGHTS; light++) {
                ways[light].known = false;
            }
        }

        /** Returns whether the traveller had or took a target, without which nothing is done. */
        private boolean act(World world, int traveller) {
            Travellers all = world.travellers;
            if (all.goal[traveller] == NONE) {
                all.goal[traveller] = world.nearestAcceptable(traveller);
            }
            int light = all.goal[traveller];
            if (!world.lights.contains(light)) {
                return false;
            }
            if (all.cell[traveller] == world.lights.cell[light] || move(world, traveller, light)) {
                settle(world, traveller, light);
            } else {
                all.passed[traveller] |= 1 << light;
                all.goal[traveller] = NONE;
            }
            return true;
        }

        /** Moves the traveller one step towards the light; returns whether there is a path. */
        private boolean move(World world, int traveller, int light) {
            Distances way = ways[light];
            if (!way.known) {
                way.measureToCell(world.ground, world.lights.cell[light]);
            }
            int from = world.travellers.cell[traveller];
            int to = way.nextCell(world.ground, from);
            if (to == NONE) {
                return false;
            }
            world.travellers.cell[traveller] = to;
            world.travellers.steps[traveller]++;
            if (world.ground.wear(from)) {
                forgetWays();
            }
            return true;
        }

        private void settle(World world, int traveller, int light) {
            Travellers all = world.travellers;
            int here = all.cell[traveller];
            if (world.ground.cells[here] == HUT) {
                all.finish(traveller, ARRIVED, world.time);
            } else if (here == world.lights.cell[light]) {
                if (holds(world.lights.trueSet, light)) {
                    passLight(world, traveller, light);
                } else {
                    all.finish(traveller, SUNK, world.time);
                    warnOthers(world, light);
                }
            }
        }

        private void passLight(World world, int traveller, int light) {
            Travellers all = world.travellers;
            all.passed[traveller] |= 1 << light;
            int next = world.lights.next[light];
            boolean follows = world.lights.contains(next) && !all.shuns(traveller, next);
            all.goal[traveller] = follows ? next : NONE;
        }

        // The one who sank is no longer walking, so all who walk are others.
        private void warnOthers(World world, int light) {
            Travellers all = world.travellers;
            int sight = world.sightNow();
            for (int other = 0; other < all.count; other++) {
                if (all.state[other] == WALKING && world.distanceTo(other, light) <= sight) {
                    all.distrusted[other] |= 1 << light;
                    if (all.goal[other] == light) {
                        all.goal[other] = NONE;
                    }
                }
            }
        }
    }

    /** The worlds before the latest changes. */
    private static final class History {
        int count;
        private int newest;
        private final World[] past;

        History() {
            past = new World[MAX_CHANGES];
            for (int n = 0; n < MAX_CHANGES; n++) {
                past[n] = new World();
            }
        }

        void forgetAll() {
            count = 0;
        }

        void remember(World world) {
            newest = (newest + 1) % MAX_CHANGES;
            past[newest].copyFrom(world);
            count = Math.min(count + 1, MAX_CHANGES);
        }

        void restoreLatest(World world) {
            if (count == 0) {
                return;
            }
            world.copyFrom(past[newest]);
            newest = (newest + MAX_CHANGES - 1) % MAX_CHANGES;
            count--;
        }
    }

    /** The input buffer, and the reader of the text in it. */
    private static final class TextReader {
        private static final int END = 0;
        private static final int WORD = 1;
        private static final int NUMBER = 2;
        private static final int SEMICOLON = 3;
        private static final int INVALID = 4;
        private static final int BLANK = 5;
        private static final int MAX_DIGITS = 3;

        int length;
        private final byte[] text;
        private int start;
        private int end;
        private int kind;
        private int value;
        private int taken;

        TextReader() {
            text = new byte[MAX_TEXT];
        }

        void putInt(int four) {
            for (int shift = 24; shift >= 0; shift -= 8) {
                putByte((byte) (four >>> shift));
            }
        }

        void putText(String written) {
            for (int n = 0; n < written.length(); n++) {
                putByte((byte) written.charAt(n));
            }
        }

        private void putByte(byte one) {
            if (length < MAX_TEXT) {
                text[length] = one;
                length++;
            }
        }

        void cutTo(int newLength) {
            length = newLength;
        }

        /** Reads the text; returns the error offset, NONE without an error. Of a wrong text it leaves half a world. */
        int readInto(World world) {
            end = 0;
            scan();
            boolean right = readHead(world)
                    && readRows(world.ground)
                    && readFogs(world)
                    && readLights(world)
                    && readTravellers(world)
                    && kind == END;
            // No token is taken before it is found to be allowed: the one at hand is the wrong one.
            return right ? NONE : start;
        }

        private boolean readHead(World world) {
            if (!takeWord("marsh") || !takeNumber(MIN_SIDE, MAX_SIDE)) {
                return false;
            }
            int columns = taken;
            if (!takeNumber(MIN_SIDE, MAX_SIDE)) {
                return false;
            }
            world.startAnew(columns, taken);
            if (!takeWord("clear") || !takeNumber(0, MAX_CLEARNESS)) {
                return false;
            }
            world.clearness = taken;
            return takeSemicolon();
        }

        private boolean readRows(Ground ground) {
            for (int y = 0; y < ground.rows; y++) {
                if (!takeWord("row") || !takeCells(ground, y) || !takeSemicolon()) {
                    return false;
                }
            }
            return true;
        }

        private boolean readFogs(World world) {
            for (int n = 0; n < MAX_TEXT && takeWord("fog"); n++) {
                if (!takeNumber(0, HOURS - 1)) {
                    return false;
                }
                int hour = taken;
                if (!takeNumber(0, MAX_FOG)) {
                    return false;
                }
                world.fog[hour] = taken;
                if (!takeSemicolon()) {
                    return false;
                }
            }
            return true;
        }

        private boolean readLights(World world) {
            for (int n = 0; n < MAX_LIGHTS && takeWord("light"); n++) {
                if (!readLight(world)) {
                    return false;
                }
            }
            return true;
        }

        private boolean readLight(World world) {
            if (!takeNumber(0, world.ground.columns - 1)) {
                return false;
            }
            int x = taken;
            if (!isNumber(0, world.ground.rows - 1) || !world.takesLight(cellAt(x, value))) {
                return false;
            }
            int cell = cellAt(x, value);
            scan();
            if (!takeNumber(0, MAX_BRIGHTNESS)) {
                return false;
            }
            int brightness = taken;
            boolean isTrue = takeWord("true");
            if (!isTrue && !takeWord("false")) {
                return false;
            }
            int light = world.lights.put(cell, brightness, isTrue);
            if (light != NONE && takeWord("next")) {
                if (!takeNumber(0, light - 1)) {
                    return false;
                }
                world.lights.next[light] = taken;
            }
            return takeSemicolon();
        }

        private boolean readTravellers(World world) {
            for (int n = 0; n < MAX_TRAVELLERS && takeWord("traveller"); n++) {
                if (!takeNumber(0, world.ground.columns - 1)) {
                    return false;
                }
                int x = taken;
                if (!isNumber(0, world.ground.rows - 1) || !world.ground.takesTraveller(cellAt(x, value))) {
                    return false;
                }
                world.travellers.put(cellAt(x, value));
                scan();
                if (!takeSemicolon()) {
                    return false;
                }
            }
            return true;
        }

        private boolean takeWord(String word) {
            if (kind != WORD || end - start != word.length()) {
                return false;
            }
            for (int n = 0; n < word.length(); n++) {
                if (text[start + n] != word.charAt(n)) {
                    return false;
                }
            }
            scan();
            return true;
        }

        private boolean isNumber(int least, int most) {
            return kind == NUMBER && value >= least && value <= most;
        }

        private boolean takeNumber(int least, int most) {
            if (!isNumber(least, most)) {
                return false;
            }
            taken = value;
            scan();
            return true;
        }

        private boolean takeSemicolon() {
            if (kind != SEMICOLON) {
                return false;
            }
            scan();
            return true;
        }

        private boolean takeCells(Ground ground, int y) {
            if (kind != WORD || end - start != ground.columns) {
                return false;
            }
            for (int x = 0; x < ground.columns; x++) {
                int cell = groundOf(text[start + x]);
                if (cell == NONE) {
                    return false;
                }
                ground.cells[cellAt(x, y)] = cell;
            }
            scan();
            return true;
        }

        private static int groundOf(byte letter) {
            switch (letter) {
                case 'f':
                    return FIRM;
                case 'w':
                    return WATER;
                case 'h':
                    return HUT;
                case 'p':
                    return TEXT_STRENGTH;
                default:
                    return NONE;
            }
        }

        /** Goes to the token after the one at hand. */
        private void scan() {
            start = end;
            while (start < length && kindOf(text[start]) == BLANK) {
                start++;
            }
            end = start;
            if (start >= length) {
                kind = END;
                return;
            }
            kind = kindOf(text[start]);
            end++;
            if (kind == WORD || kind == NUMBER) {
                while (end < length && kindOf(text[end]) == kind) {
                    end++;
                }
            }
            if (kind == NUMBER) {
                readNumber();
            }
        }

        private void readNumber() {
            if (end - start > MAX_DIGITS) {
                kind = INVALID;
                return;
            }
            value = 0;
            for (int n = start; n < end; n++) {
                value = value * 10 + text[n] - '0';
            }
        }

        /** What a token that begins with this byte is, BLANK for what stands between tokens. */
        private static int kindOf(byte one) {
            if (one >= 'a' && one <= 'z') {
                return WORD;
            }
            if (one >= '0' && one <= '9') {
                return NUMBER;
            }
            switch (one) {
                case ';':
                    return SEMICOLON;
                case ' ':
                case '\n':
                    return BLANK;
                default:
                    return INVALID;
            }
        }
    }
}
