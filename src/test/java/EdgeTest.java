import java.lang.reflect.Method;
import java.util.ArrayList;
import java.util.Arrays;
import java.util.List;

/**
 * Every call with numbers at the edges and beyond them, of an object that is new, of one in use and of one that is full:
 * it answers as ReferenceMarsh does, and changes nothing if it throws.
 */
final class EdgeTest {

    // By the number of parameters.
    private static final int[][] EDGES = {
        {},
        {Integer.MIN_VALUE, -1, 0, 1, 2, 3, 5, 6, 7, 8, 9, 10, 11, 12, 14, 15, 16, 20, 21, 23, 24, 49, 50, 100, 101, 300, 301, 799, 800, 801, Integer.MAX_VALUE},
        {Integer.MIN_VALUE, -1, 0, 1, 2, 3, 4, 5, 6, 7, 8, 9, 10, 11, 12, 23, 24, Integer.MAX_VALUE},
        {Integer.MIN_VALUE, -1, 0, 1, 2, 3, 4, 9, 10, Integer.MAX_VALUE},
        {Integer.MIN_VALUE, -1, 0, 1, 2, 3, 4, 12, Integer.MAX_VALUE},
        {-1, 0x6d617273},
    };
    private static final String MARSH = "marsh 4 3 clear 3;row fffh;row pwwf;row ffpf;fog 5 9;";
    private static final String LIGHTS = "light 0 0 0 false;light 2 0 1 true;light 3 0 1 true next 1;";
    private static final String TRAVELLERS = "traveller 0 0;traveller 3 1;traveller 0 2;";
    private static final Check check = new Check();
    // So many refused calls are made on one object: with those that prepare it and look at it they stay within 512.
    private static final int GROUP = 64;

    public static void main(String[] args) {
        check.about("T6", "A call that throws an exception changes nothing, except that load empties the input buffer and sets the error.");
        for (Method method : Calls.all()) {
            tryAll("new", new Recipe(), method);
            tryAll("in use", inUse(), method);
            tryAll("full", full(), method);
        }
        Document.compare(check, false);
        check.end();
    }

    private static Recipe inUse() {
        Recipe calls = new Recipe().withText(MARSH + LIGHTS + TRAVELLERS).with("load");
        calls = calls.with("tick", 1).with("saveSnapshot", 1).with("setTarget", 2, 1).with("layPlank", 0, 1, 1).with("tick", 2).with("print");
        return calls.with("setClearness", 5).with("undo").with("load").withText(MARSH + "traveller 1 2;");
    }

    private static Recipe full() {
        Recipe calls = new Recipe().withText(MARSH + LIGHTS + "light 0 1 0 true;light 3 1 9 true;light 0 2 1 false;light 1 2 2 true;light 2 2 3 true;"
                + TRAVELLERS + TRAVELLERS).with("load").with("saveSnapshot", 0);
        for (int n = 0; n < 99; n++) {
            calls = calls.with("tick", 100);
        }
        calls = calls.with("saveSnapshot", 1).with("tick", 50).with("setClearness", 7).with("print").with("append", 0, 0, 0, 0, 0).with("load");
        return calls.withText((MARSH + LIGHTS + TRAVELLERS + " ".repeat(800)).substring(0, 799) + "x");
    }

    private static void tryAll(String state, Recipe before, Method method) {
        String name = method.getName();
        String of = "of one " + state + ": " + name;
        List<Object[]> refused = new ArrayList<>();
        ReferenceMarsh reference = before.make(new ReferenceMarsh());
        for (Object[] arguments : waysToCall(method)) {
            String due = Calls.answer(reference, name, arguments);
            check.same(of + Arrays.toString(arguments), Calls.answer(before.make(), name, arguments), due);
            if (due.startsWith("throws")) {
                refused.add(arguments);
            } else {
                reference = before.make(new ReferenceMarsh());
            }
        }
        boolean withInput = !name.equals("load");
        String due = refused.isEmpty() ? "" : before.everything(withInput);
        for (int first = 0; first < refused.size(); first += GROUP) {
            Recipe after = before;
            for (Object[] arguments : refused.subList(first, Math.min(first + GROUP, refused.size()))) {
                after = after.with(name, arguments);
            }
            check.same(of + ": after those that throw, from number " + first + " on", after.everything(withInput), due);
        }
    }

    /** All edges as each of the numbers; what is no number is true and false in turn. */
    private static List<Object[]> waysToCall(Method method) {
        int count = method.getParameterCount();
        boolean endsWithTruth = method.getName().equals("addLight");
        List<Object[]> ways = new ArrayList<>();
        ways.add(new Object[count]);
        int[] edges = EDGES[endsWithTruth ? count - 1 : count];
        for (int place = 0; place < (endsWithTruth ? count - 1 : count); place++) {
            List<Object[]> longer = new ArrayList<>();
            for (Object[] way : ways) {
                for (int edge : edges) {
                    Object[] one = way.clone();
                    one[place] = edge;
                    longer.add(one);
                }
            }
            ways = longer;
        }
        for (int n = 0; endsWithTruth && n < ways.size(); n++) {
            ways.get(n)[count - 1] = n % 2 == 0;
        }
        return ways;
    }
}
