import java.util.ArrayList;
import java.util.List;

/**
 * Calls that can be made on one new object after another. The document promises nothing after an object's 512th call:
 * who wants to see much of what calls leave looks at it on many objects.
 */
final class Recipe {

    private final List<String> names = new ArrayList<>();
    private final List<Object[]> values = new ArrayList<>();

    /** These calls and one more. */
    Recipe with(String name, Object... arguments) {
        Recipe longer = new Recipe();
        longer.names.addAll(names);
        longer.values.addAll(values);
        longer.names.add(name);
        longer.values.add(arguments);
        return longer;
    }

    Recipe withText(String text) {
        Recipe longer = this;
        for (int at = 0; at < text.length(); at += 20) {
            longer = longer.with("append", Calls.words(text, at));
        }
        return longer;
    }

    /** An object on which these calls were made, whatever they answered. */
    <T> T make(T object) {
        for (int n = 0; n < names.size(); n++) {
            Calls.answer(object, names.get(n), values.get(n));
        }
        return object;
    }

    FalseLightMarsh make() {
        return make(new FalseLightMarsh());
    }

    private String state() {
        return Marsh.state(make());
    }

    private String answer(String name, Object... arguments) {
        return Calls.answer(make(), name, arguments);
    }

    /** Besides the state: the printed text, what can be undone and the snapshots, and if wanted the input too. */
    String everything(boolean withInput) {
        StringBuilder all = new StringBuilder(state());
        all.append("\nprinted ").append(printed(make()));
        Recipe undone = this;
        for (String left = answer("undo"); !left.startsWith("throws"); left = undone.answer("undo")) {
            undone = undone.with("undo");
            all.append("\nundone to ").append(left).append(' ').append(undone.state());
        }
        for (int slot = 0; slot < 2; slot++) {
            all.append("\nslot ").append(answer("restoreSnapshot", slot)).append(' ').append(with("restoreSnapshot", slot).state());
        }
        return withInput ? all.append(input()).toString() : all.toString();
    }

    private static String printed(FalseLightMarsh marsh) {
        StringBuilder text = new StringBuilder();
        for (String one = Calls.answer(marsh, "printedByte", 0); !one.startsWith("throws"); one = Calls.answer(marsh, "printedByte", text.length())) {
            text.append((char) Integer.parseInt(one));
        }
        return text.toString();
    }

    private String input() {
        Recipe loaded = with("load");
        return "\nerror " + answer("hasError") + ' ' + answer("errorOffset") + "\nbuffer " + bufferLength() + ' ' + answer("load")
                + ' ' + loaded.answer("errorOffset") + ' ' + loaded.state();
    }

    // The buffer tells its length when something is appended, unless there is no room for it.
    private int bufferLength() {
        String longer = answer("append", 0, 0, 0, 0, 0);
        if (!longer.startsWith("throws")) {
            return Integer.parseInt(longer) - 20;
        }
        int length = 800;
        for (FalseLightMarsh marsh = make(); Calls.answer(marsh, "shorten", length).startsWith("throws"); ) {
            length--;
        }
        return length;
    }
}
