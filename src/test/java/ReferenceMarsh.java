import java.util.ArrayDeque;
import java.util.ArrayList;
import java.util.Deque;
import java.util.HashMap;
import java.util.List;
import java.util.Map;
import java.util.NoSuchElementException;
import java.util.TreeSet;
import java.util.regex.Matcher;
import java.util.regex.Pattern;

/** The document once more, written as plainly as can be and without regard to cost, to compare answers with. */
public final class ReferenceMarsh {

    private static final class Light {
        int x;
        int y;
        int brightness;
        boolean isTrue;
        Integer next;
    }

    private static final class Traveller {
        int x;
        int y;
        String state = "walking";
        int steps;
        Integer target;
        TreeSet<Integer> passed = new TreeSet<>();
        TreeSet<Integer> distrusted = new TreeSet<>();
    }

    private static final class State {
        String[][] cells;
        Map<String, Integer> strength = new HashMap<>();
        List<Light> lights = new ArrayList<>();
        List<Traveller> travellers = new ArrayList<>();
        int[] fog = new int[24];
        int time;
        int clearness;

        State copy() {
            State copy = new State();
            copy.cells = new String[cells.length][];
            for (int y = 0; y < cells.length; y++) {
                copy.cells[y] = cells[y].clone();
            }
            copy.strength.putAll(strength);
            for (Light light : lights) {
                Light other = new Light();
                other.x = light.x;
                other.y = light.y;
                other.brightness = light.brightness;
                other.isTrue = light.isTrue;
                other.next = light.next;
                copy.lights.add(other);
            }
            for (Traveller traveller : travellers) {
                Traveller other = new Traveller();
                other.x = traveller.x;
                other.y = traveller.y;
                other.state = traveller.state;
                other.steps = traveller.steps;
                other.target = traveller.target;
                other.passed.addAll(traveller.passed);
                other.distrusted.addAll(traveller.distrusted);
                copy.travellers.add(other);
            }
            copy.fog = fog.clone();
            copy.time = time;
            copy.clearness = clearness;
            return copy;
        }

        boolean in(int x, int y) {
            return y >= 0 && y < cells.length && x >= 0 && x < cells[0].length;
        }

        boolean is(int x, int y, String kind) {
            return cells[y][x].equals(kind);
        }

        int sight() {
            return Math.max(clearness - fog[time % 24], 0);
        }

        // The length of a shortest path to the cell from every cell, by relaxing until nothing changes.
        int[][] lengths(int goalX, int goalY) {
            int far = 1000;
            int[][] length = new int[cells.length][cells[0].length];
            for (int[] row : length) {
                java.util.Arrays.fill(row, far);
            }
            length[goalY][goalX] = 0;
            for (boolean again = true; again; ) {
                again = false;
                for (int y = 0; y < cells.length; y++) {
                    for (int x = 0; x < cells[0].length; x++) {
                        for (int[] step : STEPS) {
                            int nx = x + step[0];
                            int ny = y + step[1];
                            if (in(nx, ny) && !is(nx, ny, "w") && length[ny][nx] + 1 < length[y][x]) {
                                length[y][x] = length[ny][nx] + 1;
                                again = true;
                            }
                        }
                    }
                }
            }
            return length;
        }

        Integer path(int fromX, int fromY, int toX, int toY) {
            int length = lengths(toX, toY)[fromY][fromX];
            return length >= 1000 ? null : length;
        }

        int distance(Traveller traveller, Light light) {
            return Math.abs(traveller.x - light.x) + Math.abs(traveller.y - light.y);
        }

        boolean sees(Traveller traveller, Light light) {
            return distance(traveller, light) <= sight() + light.brightness;
        }

        Integer nearest(Traveller traveller) {
            Integer best = null;
            for (int n = lights.size() - 1; n >= 0; n--) {
                boolean known = traveller.passed.contains(n) || traveller.distrusted.contains(n);
                if (!known && sees(traveller, lights.get(n))
                        && (best == null || distance(traveller, lights.get(n)) <= distance(traveller, lights.get(best)))) {
                    best = n;
                }
            }
            return best;
        }

        boolean astray(int light) {
            List<Integer> seen = new ArrayList<>();
            for (Integer at = light; at != null; at = lights.get(at).next) {
                if (!lights.get(at).isTrue || seen.contains(at)) {
                    return true;
                }
                seen.add(at);
            }
            return false;
        }

        int astrayCount() {
            int count = 0;
            for (int n = 0; n < lights.size(); n++) {
                count += astray(n) ? 1 : 0;
            }
            return count;
        }

        int count(String state) {
            int count = 0;
            for (Traveller traveller : travellers) {
                count += traveller.state.equals(state) ? 1 : 0;
            }
            return count;
        }

        void tick() {
            time++;
            for (Traveller traveller : travellers) {
                if (traveller.state.equals("walking")) {
                    act(traveller);
                }
            }
        }

        void act(Traveller traveller) {
            if (traveller.target == null) {
                traveller.target = nearest(traveller);
            }
            if (traveller.target == null) {
                return;
            }
            int number = traveller.target;
            Light light = lights.get(number);
            if (traveller.x != light.x || traveller.y != light.y) {
                if (path(traveller.x, traveller.y, light.x, light.y) == null) {
                    traveller.passed.add(number);
                    traveller.target = null;
                    return;
                }
                step(traveller, light);
            }
            boolean there = traveller.x == light.x && traveller.y == light.y;
            if (is(traveller.x, traveller.y, "h")) {
                traveller.state = "arrived";
                traveller.target = null;
            } else if (there && !light.isTrue) {
                traveller.state = "sunk";
                traveller.target = null;
                for (Traveller other : travellers) {
                    if (other != traveller && other.state.equals("walking") && distance(other, light) <= sight()) {
                        other.distrusted.add(number);
                        if (other.target != null && other.target == number) {
                            other.target = null;
                        }
                    }
                }
            } else if (there) {
                traveller.passed.add(number);
                traveller.target = light.next;
                if (light.next != null && (traveller.passed.contains(light.next) || traveller.distrusted.contains(light.next))) {
                    traveller.target = null;
                }
            }
        }

        void step(Traveller traveller, Light light) {
            int x = traveller.x;
            int y = traveller.y;
            int[][] lengths = lengths(light.x, light.y);
            for (int[] step : STEPS) {
                int nx = x + step[0];
                int ny = y + step[1];
                if (in(nx, ny) && !is(nx, ny, "w") && lengths[ny][nx] == lengths[y][x] - 1) {
                    traveller.x = nx;
                    traveller.y = ny;
                    break;
                }
            }
            traveller.steps++;
            if (is(x, y, "p")) {
                int left = strength.get(x + "," + y) - 1;
                strength.put(x + "," + y, left);
                if (left == 0) {
                    strength.remove(x + "," + y);
                    cells[y][x] = "w";
                }
            }
        }
    }

    private static final int[][] STEPS = {{0, -1}, {1, 0}, {0, 1}, {-1, 0}};

    private State now;
    private String buffer = "";
    private Integer error;
    private Deque<State> past = new ArrayDeque<>();
    private State[] snapshots = new State[2];
    private String printed = "";

    public ReferenceMarsh() {
        buffer = "marsh 4 3 clear 4;row fffh;row fwwf;row ffpf;";
        load();
    }

    public int append(int a, int b, int c, int d, int e) {
        if (buffer.length() + 20 > 800) {
            throw new IllegalStateException();
        }
        for (int word : new int[] {a, b, c, d, e}) {
            buffer += "" + (char) (word >> 24 & 255) + (char) (word >> 16 & 255) + (char) (word >> 8 & 255) + (char) (word & 255);
        }
        return buffer.length();
    }

    public int shorten(int length) {
        argument(length >= 0 && length <= buffer.length());
        buffer = buffer.substring(0, length);
        return length;
    }

    public int load() {
        State read = new State();
        error = new Reader(buffer, read).read();
        buffer = "";
        argument(error == null);
        now = read;
        past.clear();
        snapshots = new State[2];
        return now.travellers.size();
    }

    /** Reads a text by its tokens, and stops at the first one that is not allowed. */
    private static final class Reader {
        private final List<String> tokens = new ArrayList<>();
        private final List<Integer> offsets = new ArrayList<>();
        private final State state;
        private int at;

        Reader(String text, State state) {
            this.state = state;
            Matcher matcher = Pattern.compile("[a-z]+|[0-9]+|[^ \\n]", Pattern.DOTALL).matcher(text);
            while (matcher.find()) {
                tokens.add(matcher.group());
                offsets.add(matcher.start());
            }
            tokens.add("");
            offsets.add(text.length());
        }

        Integer read() {
            try {
                text();
                expect("");
                return null;
            } catch (IllegalStateException e) {
                return offsets.get(at);
            }
        }

        private void text() {
            expect("marsh");
            int columns = number(2, 12);
            int rows = number(2, 12);
            expect("clear");
            state.clearness = number(0, 20);
            expect(";");
            state.cells = new String[rows][];
            for (int y = 0; y < rows; y++) {
                expect("row");
                must(tokens.get(at).matches("[fwhp]{" + columns + "}"));
                state.cells[y] = tokens.get(at++).split("");
                for (int x = 0; x < columns; x++) {
                    if (state.is(x, y, "p")) {
                        state.strength.put(x + "," + y, 3);
                    }
                }
                expect(";");
            }
            while (tokens.get(at).equals("fog")) {
                at++;
                int hour = number(0, 23);
                state.fog[hour] = number(0, 9);
                expect(";");
            }
            while (tokens.get(at).equals("light")) {
                light(columns, rows);
            }
            while (tokens.get(at).equals("traveller")) {
                must(state.travellers.size() < 6);
                at++;
                Traveller traveller = new Traveller();
                traveller.x = number(0, columns - 1);
                traveller.y = number(0, rows - 1);
                at--;
                must(!state.is(traveller.x, traveller.y, "w") && !state.is(traveller.x, traveller.y, "h"));
                at++;
                state.travellers.add(traveller);
                expect(";");
            }
        }

        private void light(int columns, int rows) {
            must(state.lights.size() < 8);
            at++;
            Light light = new Light();
            light.x = number(0, columns - 1);
            light.y = number(0, rows - 1);
            at--;
            must(!state.is(light.x, light.y, "w"));
            for (Light other : state.lights) {
                must(other.x != light.x || other.y != light.y);
            }
            at++;
            light.brightness = number(0, 9);
            must(tokens.get(at).equals("true") || tokens.get(at).equals("false"));
            light.isTrue = tokens.get(at++).equals("true");
            if (tokens.get(at).equals("next")) {
                at++;
                light.next = number(0, state.lights.size() - 1);
            }
            state.lights.add(light);
            expect(";");
        }

        private void must(boolean holds) {
            if (!holds) {
                throw new IllegalStateException();
            }
        }

        private void expect(String token) {
            must(tokens.get(at).equals(token));
            at++;
        }

        private int number(int least, int most) {
            must(tokens.get(at).matches("[0-9]{1,3}"));
            int number = Integer.parseInt(tokens.get(at));
            must(number >= least && number <= most);
            at++;
            return number;
        }
    }

    public boolean hasError() {
        return error != null;
    }

    public int errorOffset() {
        return element(error);
    }

    public int width() {
        return now.cells[0].length;
    }

    public int height() {
        return now.cells.length;
    }

    public boolean isWater(int x, int y) {
        index(now.in(x, y));
        return now.is(x, y, "w");
    }

    public boolean isHut(int x, int y) {
        index(now.in(x, y));
        return now.is(x, y, "h");
    }

    public boolean isPlank(int x, int y) {
        index(now.in(x, y));
        return now.is(x, y, "p");
    }

    public int plankStrength(int x, int y) {
        index(now.in(x, y));
        return element(now.strength.get(x + "," + y));
    }

    public int plankCount() {
        return now.strength.size();
    }

    public int pathLength(int fromX, int fromY, int toX, int toY) {
        index(now.in(fromX, fromY) && now.in(toX, toY));
        return element(now.path(fromX, fromY, toX, toY));
    }

    public int stepsToHut(int x, int y) {
        index(now.in(x, y));
        Integer least = null;
        for (int row = 0; row < height(); row++) {
            for (int column = 0; column < width(); column++) {
                Integer length = now.is(column, row, "h") ? now.path(x, y, column, row) : null;
                least = length == null || least != null && least <= length ? least : length;
            }
        }
        return element(least);
    }

    public int time() {
        return now.time;
    }

    public int clearness() {
        return now.clearness;
    }

    public int fog(int hour) {
        index(hour >= 0 && hour <= 23);
        return now.fog[hour];
    }

    public int sight() {
        return now.sight();
    }

    public int lightCount() {
        return now.lights.size();
    }

    public int lightColumn(int light) {
        return light(light).x;
    }

    public int lightRow(int light) {
        return light(light).y;
    }

    public int brightness(int light) {
        return light(light).brightness;
    }

    public boolean isTrueLight(int light) {
        return light(light).isTrue;
    }

    public boolean hasSuccessor(int light) {
        return light(light).next != null;
    }

    public int successor(int light) {
        return element(light(light).next);
    }

    public int followers(int light) {
        light(light);
        int count = 0;
        for (Traveller traveller : now.travellers) {
            count += traveller.state.equals("walking") && traveller.target != null && traveller.target == light ? 1 : 0;
        }
        return count;
    }

    public boolean leadsAstray(int light) {
        light(light);
        return now.astray(light);
    }

    public int travellerCount() {
        return now.travellers.size();
    }

    public int travellerColumn(int traveller) {
        return traveller(traveller).x;
    }

    public int travellerRow(int traveller) {
        return traveller(traveller).y;
    }

    public boolean isWalking(int traveller) {
        return traveller(traveller).state.equals("walking");
    }

    public boolean hasArrived(int traveller) {
        return traveller(traveller).state.equals("arrived");
    }

    public boolean hasSunk(int traveller) {
        return traveller(traveller).state.equals("sunk");
    }

    public int stepsTaken(int traveller) {
        return traveller(traveller).steps;
    }

    public boolean hasTarget(int traveller) {
        return traveller(traveller).target != null;
    }

    public int target(int traveller) {
        return element(traveller(traveller).target);
    }

    public boolean hasPassed(int traveller, int light) {
        light(light);
        return traveller(traveller).passed.contains(light);
    }

    public boolean distrusts(int traveller, int light) {
        light(light);
        return traveller(traveller).distrusted.contains(light);
    }

    public boolean sees(int traveller, int light) {
        return now.sees(traveller(traveller), light(light));
    }

    public int nearestLight(int traveller) {
        return element(now.nearest(traveller(traveller)));
    }

    public int walkingCount() {
        return now.count("walking");
    }

    public int arrivedCount() {
        return now.count("arrived");
    }

    public int sunkCount() {
        return now.count("sunk");
    }

    public float arrivedShare() {
        return now.travellers.isEmpty() ? 0 : (float) arrivedCount() / (float) travellerCount();
    }

    public double meanSteps() {
        int steps = 0;
        for (Traveller traveller : now.travellers) {
            steps += traveller.steps;
        }
        return now.travellers.isEmpty() ? 0 : (double) steps / (double) travellerCount();
    }

    public int ticksUntilDone(int traveller) {
        state(traveller(traveller).state.equals("walking"));
        State future = now.copy();
        for (int n = 1; n <= 300; n++) {
            future.tick();
            if (!future.travellers.get(traveller).state.equals("walking")) {
                return n;
            }
        }
        throw new NoSuchElementException();
    }

    public boolean willArrive(int traveller) {
        traveller(traveller);
        return after(300).travellers.get(traveller).state.equals("arrived");
    }

    public int arrivedAfter(int ticks) {
        argument(ticks >= 0 && ticks <= 300);
        return after(ticks).count("arrived");
    }

    public int sunkAfter(int ticks) {
        argument(ticks >= 0 && ticks <= 300);
        return after(ticks).count("sunk");
    }

    private State after(int ticks) {
        State future = now.copy();
        for (int n = 0; n < ticks; n++) {
            future.tick();
        }
        return future;
    }

    public int bestClearness() {
        int[] arrived = new int[21];
        int most = 0;
        for (int clear = 0; clear <= 20; clear++) {
            State kept = now;
            now = now.copy();
            now.clearness = clear;
            arrived[clear] = after(300).count("arrived");
            now = kept;
            most = Math.max(most, arrived[clear]);
        }
        int best = 0;
        while (arrived[best] != most) {
            best++;
        }
        return best;
    }

    public int tick(int count) {
        argument(count >= 1 && count <= 100);
        state(now.time + count <= 9999);
        change();
        int before = arrivedCount();
        now = after(count);
        return arrivedCount() - before;
    }

    public int addLight(int x, int y, int brightness, boolean isTrue) {
        index(now.in(x, y));
        argument(brightness >= 0 && brightness <= 9);
        state(now.lights.size() < 8 && !now.is(x, y, "w"));
        for (Light other : now.lights) {
            state(other.x != x || other.y != y);
        }
        change();
        Light light = new Light();
        light.x = x;
        light.y = y;
        light.brightness = brightness;
        light.isTrue = isTrue;
        now.lights.add(light);
        return now.lights.size() - 1;
    }

    public int addTraveller(int x, int y) {
        index(now.in(x, y));
        state(now.travellers.size() < 6 && !now.is(x, y, "w") && !now.is(x, y, "h"));
        change();
        Traveller traveller = new Traveller();
        traveller.x = x;
        traveller.y = y;
        now.travellers.add(traveller);
        return now.travellers.size() - 1;
    }

    public int setSuccessor(int light, int next) {
        light(light);
        light(next);
        argument(light != next);
        change();
        light(light).next = next;
        return now.astrayCount();
    }

    public int clearSuccessor(int light) {
        int previous = element(light(light).next);
        change();
        light(light).next = null;
        return previous;
    }

    public int layPlank(int x, int y, int strength) {
        index(now.in(x, y));
        argument(strength >= 1 && strength <= 9);
        state(now.is(x, y, "w") || now.is(x, y, "p"));
        change();
        now.cells[y][x] = "p";
        now.strength.put(x + "," + y, strength);
        return now.strength.size();
    }

    public int setClearness(int clearness) {
        argument(clearness >= 0 && clearness <= 20);
        change();
        int previous = now.clearness;
        now.clearness = clearness;
        return previous;
    }

    public int setFog(int hour, int fog) {
        index(hour >= 0 && hour <= 23);
        argument(fog >= 0 && fog <= 9);
        change();
        int previous = now.fog[hour];
        now.fog[hour] = fog;
        return previous;
    }

    public int setTarget(int traveller, int light) {
        light(light);
        state(traveller(traveller).state.equals("walking"));
        change();
        traveller(traveller).target = light;
        return now.distance(traveller(traveller), light(light));
    }

    public int undo() {
        state(!past.isEmpty());
        now = past.removeLast();
        return past.size();
    }

    public int saveSnapshot(int slot) {
        index(slot == 0 || slot == 1);
        snapshots[slot] = now.copy();
        return now.time;
    }

    public int restoreSnapshot(int slot) {
        index(slot == 0 || slot == 1);
        if (snapshots[slot] == null) {
            throw new NoSuchElementException();
        }
        change();
        now = snapshots[slot].copy();
        return now.time;
    }

    public int print() {
        StringBuilder text = new StringBuilder();
        for (int y = 0; y < height(); y++) {
            for (int x = 0; x < width(); x++) {
                String sign = now.cells[y][x];
                for (Light light : now.lights) {
                    sign = light.x == x && light.y == y ? "*" : sign;
                }
                for (int n = 5; n >= 0; n--) {
                    Traveller traveller = n < now.travellers.size() ? now.travellers.get(n) : null;
                    if (traveller != null && traveller.x == x && traveller.y == y && traveller.state.equals("walking")) {
                        sign = "" + n;
                    }
                }
                text.append(sign);
            }
            text.append("\n");
        }
        printed = text.toString();
        return printed.length();
    }

    public int printedByte(int index) {
        index(index >= 0 && index < printed.length());
        return printed.charAt(index);
    }

    private void change() {
        past.addLast(now.copy());
        if (past.size() > 8) {
            past.removeFirst();
        }
    }

    private Light light(int light) {
        index(light >= 0 && light < now.lights.size());
        return now.lights.get(light);
    }

    private Traveller traveller(int traveller) {
        index(traveller >= 0 && traveller < now.travellers.size());
        return now.travellers.get(traveller);
    }

    private static int element(Integer value) {
        if (value == null) {
            throw new NoSuchElementException();
        }
        return value;
    }

    private static void index(boolean holds) {
        if (!holds) {
            throw new IndexOutOfBoundsException();
        }
    }

    private static void argument(boolean holds) {
        if (!holds) {
            throw new IllegalArgumentException();
        }
    }

    private static void state(boolean holds) {
        if (!holds) {
            throw new IllegalStateException();
        }
    }
}
