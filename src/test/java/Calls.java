import java.lang.reflect.InvocationTargetException;
import java.lang.reflect.Method;
import java.lang.reflect.Modifier;
import java.util.ArrayList;
import java.util.Comparator;
import java.util.List;

/** Calls by their names, of the class and of its reference alike. */
final class Calls {

    private Calls() {
    }

    /** The public methods of the class. Reflection promises no order, and the runs are to be the same everywhere. */
    static List<Method> all() {
        List<Method> all = new ArrayList<>();
        for (Method method : FalseLightMarsh.class.getDeclaredMethods()) {
            if (Modifier.isPublic(method.getModifiers())) {
                all.add(method);
            }
        }
        all.sort(Comparator.comparing(Method::getName));
        return all;
    }

    /** The answer as a text, or the name of the exception's class. */
    static String answer(Object object, String name, Object... values) {
        Class<?>[] types = new Class<?>[values.length];
        for (int n = 0; n < values.length; n++) {
            types[n] = values[n] instanceof Boolean ? boolean.class : int.class;
        }
        try {
            return object.getClass().getMethod(name, types).invoke(object, values).toString();
        } catch (InvocationTargetException e) {
            return "throws " + e.getCause().getClass().getName();
        } catch (ReflectiveOperationException e) {
            throw new IllegalStateException(e);
        }
    }

    /** Twenty bytes of a text for append, spaces behind its end. */
    static Object[] words(String text, int at) {
        Object[] words = new Object[5];
        for (int n = 0; n < 5; n++) {
            int word = 0;
            for (int k = at + 4 * n; k < at + 4 * n + 4; k++) {
                word = word << 8 | (k < text.length() ? text.charAt(k) : ' ');
            }
            words[n] = word;
        }
        return words;
    }
}
