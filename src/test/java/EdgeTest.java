import java.lang.reflect.Method;
import java.util.ArrayList;
import java.util.Arrays;
import java.util.List;

/**
 * Every call with numbers at the edges and beyond them, of an object that is new, of one in use and of one that is full:
 * it answers as ReferenceMarsh does, and changes nothing if it throws.
 */
final class EdgeTest {

    // By the number of parameters.
    private static final int[][] EDGES = {
        {},
        {Integer.MIN_VALUE, -1, 0, 1, 2, 3, 5, 6, 7, 8, 9, 10, 11, 12, 14, 15, 16, 20, 21, 23, 24, 49, 50, 100, 101, 300, 301, 799, 800, 801, Integer.MAX_VALUE},
        {Integer.MIN_VALUE, -1, 0, 1, 2, 3, 4, 5, 6, 7, 8, 9, 10, 11, 12, 23, 24, Integer.MAX_VALUE},
        {Integer.MIN_VALUE, -1, 0, 1, 2, 3, 4, 9, 10, Integer.MAX_VALUE},
        {Integer.MIN_VALUE, -1, 0, 1, 2, 3, 4, 12, Integer.MAX_VALUE},
        {-1, 0x6d617273},
    };
    private static final String MARSH = "marsh 4 3 clear 3;row fffh;row pwwf;row ffpf;fog 5 9;";
    private static final String LIGHTS = "light 0 0 0 false;light 2 0 1 true;light 3 0 1 true next 1;";
    private static final String TRAVELLERS = "traveller 0 0;traveller 3 1;traveller 0 2;";
    private static final Check check = new Check();

    private final List<String> names = new ArrayList<>();
    private final List<Object[]> values = new ArrayList<>();

    public static void main(String[] args) {
        check.about("T6", "A call that throws an exception changes nothing, except that load empties the input buffer and sets the error.");
        for (Method method : Calls.all()) {
            new EdgeTest().tryAll("new", method);
            inUse().tryAll("in use", method);
            full().tryAll("full", method);
        }
        Document.compare(check, false);
        check.end();
    }

    private EdgeTest with(String name, Object... arguments) {
        names.add(name);
        values.add(arguments);
        return this;
    }

    private EdgeTest withText(String text) {
        for (int at = 0; at < text.length(); at += 20) {
            with("append", Calls.words(text, at));
        }
        return this;
    }

    private static EdgeTest inUse() {
        EdgeTest calls = new EdgeTest().withText(MARSH + LIGHTS + TRAVELLERS).with("load");
        calls.with("tick", 1).with("saveSnapshot", 1).with("setTarget", 2, 1).with("layPlank", 0, 1, 1).with("tick", 2).with("print");
        return calls.with("setClearness", 5).with("undo").with("load").withText(MARSH + "traveller 1 2;");
    }

    private static EdgeTest full() {
        EdgeTest calls = new EdgeTest().withText(MARSH + LIGHTS + "light 0 1 0 true;light 3 1 9 true;light 0 2 1 false;light 1 2 2 true;light 2 2 3 true;"
                + TRAVELLERS + TRAVELLERS).with("load").with("saveSnapshot", 0);
        for (int n = 0; n < 99; n++) {
            calls.with("tick", 100);
        }
        calls.with("saveSnapshot", 1).with("tick", 50).with("setClearness", 7).with("print").with("append", 0, 0, 0, 0, 0).with("load");
        return calls.withText((MARSH + LIGHTS + TRAVELLERS + " ".repeat(800)).substring(0, 799) + "x");
    }

    private <T> T prepare(T object) {
        for (int n = 0; n < names.size(); n++) {
            Calls.answer(object, names.get(n), values.get(n));
        }
        return object;
    }

    private void tryAll(String state, Method method) {
        String name = method.getName();
        boolean withInput = !name.equals("load");
        FalseLightMarsh refusing = prepare(new FalseLightMarsh());
        ReferenceMarsh reference = prepare(new ReferenceMarsh());
        for (Object[] arguments : waysToCall(method)) {
            String due = Calls.answer(reference, name, arguments);
            boolean refused = due.startsWith("throws");
            FalseLightMarsh marsh = refused ? refusing : prepare(new FalseLightMarsh());
            check.same("of one " + state + ": " + name + Arrays.toString(arguments), Calls.answer(marsh, name, arguments), due);
            reference = refused ? reference : prepare(new ReferenceMarsh());
        }
        check.same("of one " + state + ": after every " + name + " that throws", Marsh.everything(refusing, withInput),
                Marsh.everything(prepare(new FalseLightMarsh()), withInput));
    }

    /** All edges as each of the numbers; what is no number is true and false in turn. */
    private static List<Object[]> waysToCall(Method method) {
        int count = method.getParameterCount();
        boolean endsWithTruth = method.getName().equals("addLight");
        List<Object[]> ways = new ArrayList<>();
        ways.add(new Object[count]);
        int[] edges = EDGES[endsWithTruth ? count - 1 : count];
        for (int place = 0; place < (endsWithTruth ? count - 1 : count); place++) {
            List<Object[]> longer = new ArrayList<>();
            for (Object[] way : ways) {
                for (int edge : edges) {
                    Object[] one = way.clone();
                    one[place] = edge;
                    longer.add(one);
                }
            }
            ways = longer;
        }
        for (int n = 0; endsWithTruth && n < ways.size(); n++) {
            ways.get(n)[count - 1] = n % 2 == 0;
        }
        return ways;
    }
}
