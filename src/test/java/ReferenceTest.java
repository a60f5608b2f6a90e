import java.lang.reflect.Method;
import java.util.ArrayList;
import java.util.List;
import java.util.Random;

/** All promises: long runs of calls by chance (the same in every run), each answered as ReferenceMarsh does. */
final class ReferenceTest {

    private static final int RUNS = 150;
    private static final int CALLS = 512;
    // Questions about the future are dear in the reference, and change nothing.
    private static final List<String> DEAR = List.of("ticksUntilDone", "willArrive", "arrivedAfter", "sunkAfter");
    private static final List<String> CHANGES = List.of("tick", "addLight", "addTraveller", "setSuccessor",
            "clearSuccessor", "layPlank", "setClearness", "setFog", "setTarget", "undo", "saveSnapshot", "restoreSnapshot");

    private static final Check check = new Check();
    private static final List<Method> questions = new ArrayList<>();
    private static final List<Method> dear = new ArrayList<>();
    private static final List<Method> changes = new ArrayList<>();

    private final Random random;
    private final FalseLightMarsh marsh = new FalseLightMarsh();
    private final ReferenceMarsh reference = new ReferenceMarsh();
    private final StringBuilder calls = new StringBuilder();
    private int made;
    private boolean differs;

    private ReferenceTest(int seed) {
        random = new Random(seed);
    }

    public static void main(String[] args) {
        int runs = args.length > 0 ? Integer.parseInt(args[0]) : RUNS;
        int first = args.length > 1 ? Integer.parseInt(args[1]) : 0;
        sortMethods();
        for (int run = first; run < first + runs; run++) {
            new ReferenceTest(run).run(run);
        }
        check.end();
    }

    private static void sortMethods() {
        for (Method method : Calls.all()) {
            String name = method.getName();
            if (CHANGES.contains(name)) {
                changes.add(method);
            } else if (DEAR.contains(name)) {
                dear.add(method);
            } else if (!List.of("append", "shorten", "load", "bestClearness").contains(name)) {
                questions.add(method);
            }
        }
    }

    private void run(int seed) {
        while (made < CALLS && !differs) {
            int kind = random.nextInt(1000);
            if (made == 0 || kind < 4) {
                loadText();
            } else if (kind < 450) {
                call(changes.get(random.nextInt(changes.size())));
            } else if (kind < 455) {
                call(dear.get(random.nextInt(dear.size())));
            } else if (kind < 456) {
                call("bestClearness");
            } else {
                call(questions.get(random.nextInt(questions.size())));
            }
        }
        if (differs) {
            System.out.println("run " + seed + ":\n" + calls);
        }
    }

    private void call(Method method) {
        Class<?>[] types = method.getParameterTypes();
        Object[] values = new Object[types.length];
        for (int n = 0; n < types.length; n++) {
            values[n] = types[n] == boolean.class ? (Object) random.nextBoolean() : (Object) number(method.getName(), n);
        }
        call(method.getName(), values);
    }

    private int number(String name, int place) {
        if (random.nextInt(60) == 0) {
            int[] odd = {-1, Integer.MIN_VALUE, Integer.MAX_VALUE, 8, 12, 24, 101, 301};
            return odd[random.nextInt(odd.length)];
        }
        return switch (name) {
            case "tick" -> random.nextInt(3) > 0 ? 1 + random.nextInt(3) : random.nextInt(102);
            case "setClearness" -> random.nextInt(22);
            case "fog", "setFog" -> random.nextInt(place == 0 ? 25 : 11);
            case "printedByte" -> random.nextInt(160);
            case "arrivedAfter", "sunkAfter" -> random.nextInt(302);
            case "saveSnapshot", "restoreSnapshot" -> random.nextInt(3);
            case "layPlank" -> place == 2 ? (random.nextInt(3) > 0 ? 1 : random.nextInt(11)) : coordinate(place);
            case "addLight" -> place == 2 ? random.nextInt(11) : coordinate(place);
            case "isWater", "isHut", "isPlank", "plankStrength", "stepsToHut", "addTraveller", "pathLength" -> coordinate(place);
            case "setTarget", "sees", "distrusts", "hasPassed" -> random.nextInt(place == 0 ? 6 : 8);
            default -> random.nextInt(8);
        };
    }

    private int coordinate(int place) {
        return random.nextInt((place % 2 == 0 ? reference.width() : reference.height()) + (random.nextInt(20) == 0 ? 1 : 0));
    }

    private void loadText() {
        String text = text();
        if (random.nextInt(3) == 0) {
            text = spoil(text);
        }
        for (int at = 0; at < text.length(); at += 20) {
            call("append", Calls.words(text, at));
        }
        call("shorten", text.length());
        call("load");
        call("hasError");
        call("errorOffset");
    }

    private String text() {
        int columns = 2 + random.nextInt(random.nextInt(4) == 0 ? 11 : 6);
        int rows = 2 + random.nextInt(random.nextInt(4) == 0 ? 11 : 6);
        StringBuilder text = new StringBuilder();
        text.append("marsh ").append(columns).append(' ').append(rows).append(" clear ").append(random.nextInt(12)).append(';');
        String letters = "fffffffwwwpppp" + (random.nextInt(3) > 0 ? "h" : "");
        for (int y = 0; y < rows; y++) {
            text.append("row ");
            for (int x = 0; x < columns; x++) {
                text.append(letters.charAt(random.nextInt(letters.length())));
            }
            text.append(random.nextInt(10) == 0 ? " ;\n" : ";");
        }
        for (int n = random.nextInt(6); n > 0; n--) {
            text.append("fog ").append(random.nextInt(24)).append(' ').append(random.nextInt(10)).append(';');
        }
        int lights = random.nextInt(9);
        for (int n = 0; n < lights; n++) {
            int[] cell = freeCell(text.toString(), columns, rows);
            text.append("light ").append(cell[0]).append(' ').append(cell[1]).append(' ').append(random.nextInt(10));
            text.append(random.nextInt(3) > 0 ? " true" : " false");
            text.append(n > 0 && random.nextBoolean() ? " next " + random.nextInt(n) : "").append(';');
        }
        for (int n = random.nextInt(7); n > 0; n--) {
            int[] cell = freeCell(text.toString(), columns, rows);
            text.append("traveller ").append(cell[0]).append(' ').append(cell[1]).append(';');
        }
        return text.length() > 780 ? text.substring(0, 780) : text.toString();
    }

    // A cell where nothing forbids a light or a traveller, if one is found in some tries.
    private int[] freeCell(String text, int columns, int rows) {
        int[] cell = new int[2];
        for (int tries = 0; tries < 40; tries++) {
            cell[0] = random.nextInt(columns);
            cell[1] = random.nextInt(rows);
            String row = text.split("row ")[cell[1] + 1];
            boolean lit = text.contains("light " + cell[0] + " " + cell[1] + " ");
            if (!lit && row.charAt(cell[0]) != 'w' && row.charAt(cell[0]) != 'h') {
                break;
            }
        }
        return cell;
    }

    private String spoil(String text) {
        String signs = "abfhlmnoprtw0123456789;;  \n\t-A" + (char) 200 + (char) 0;
        StringBuilder spoilt = new StringBuilder(text);
        int at = random.nextInt(text.length());
        switch (random.nextInt(5)) {
            case 0 -> spoilt.setCharAt(at, signs.charAt(random.nextInt(signs.length())));
            case 1 -> spoilt.deleteCharAt(at);
            case 2 -> spoilt.insert(at, signs.charAt(random.nextInt(signs.length())));
            case 3 -> spoilt.setLength(at);
            default -> spoilt.append(new String[] {"fog 0 0;", "light 0 0 0 true;", "traveller 0 0;", "x", " 1", "\n"}[random.nextInt(6)]);
        }
        return spoilt.length() > 780 ? spoilt.substring(0, 780) : spoilt.toString();
    }

    // What later calls answer is free.
    private void call(String name, Object... values) {
        if (made == CALLS) {
            return;
        }
        made++;
        String got = Calls.answer(marsh, name, values);
        String due = Calls.answer(reference, name, values);
        calls.append(name).append(java.util.Arrays.toString(values)).append(" = ").append(got).append('\n');
        differs |= !got.equals(due);
        check.same(name, got, due);
    }
}
