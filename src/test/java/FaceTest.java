import java.lang.reflect.Constructor;
import java.lang.reflect.Field;
import java.lang.reflect.Method;
import java.lang.reflect.Modifier;
import java.util.Set;
import java.util.TreeSet;

/** The public face is the document's, with every throws clause, and nothing else. */
final class FaceTest {

    private static final String I = " IndexOutOfBoundsException";
    private static final String A = " IllegalArgumentException";
    private static final String S = " IllegalStateException";
    private static final String N = " NoSuchElementException";

    private static final String[] FACE = {
        "int append(int,int,int,int,int)" + S, "int shorten(int)" + A, "int load()" + A, "boolean hasError()",
        "int errorOffset()" + N, "int width()", "int height()", "boolean isWater(int,int)" + I,
        "boolean isHut(int,int)" + I, "boolean isPlank(int,int)" + I, "int plankStrength(int,int)" + I + N,
        "int plankCount()", "int pathLength(int,int,int,int)" + I + N, "int stepsToHut(int,int)" + I + N,
        "int time()", "int clearness()", "int fog(int)" + I, "int sight()", "int lightCount()",
        "int lightColumn(int)" + I, "int lightRow(int)" + I, "int brightness(int)" + I,
        "boolean isTrueLight(int)" + I, "boolean hasSuccessor(int)" + I, "int successor(int)" + I + N,
        "int followers(int)" + I, "boolean leadsAstray(int)" + I, "int travellerCount()",
        "int travellerColumn(int)" + I, "int travellerRow(int)" + I, "boolean isWalking(int)" + I,
        "boolean hasArrived(int)" + I, "boolean hasSunk(int)" + I, "int stepsTaken(int)" + I,
        "boolean hasTarget(int)" + I, "int target(int)" + I + N, "boolean hasPassed(int,int)" + I,
        "boolean distrusts(int,int)" + I, "boolean sees(int,int)" + I, "int nearestLight(int)" + I + N,
        "int walkingCount()", "int arrivedCount()", "int sunkCount()", "float arrivedShare()",
        "double meanSteps()", "int ticksUntilDone(int)" + I + S + N, "boolean willArrive(int)" + I,
        "int arrivedAfter(int)" + A, "int sunkAfter(int)" + A, "int bestClearness()", "int tick(int)" + A + S,
        "int addLight(int,int,int,boolean)" + I + A + S, "int addTraveller(int,int)" + I + S,
        "int setSuccessor(int,int)" + I + A, "int clearSuccessor(int)" + I + N,
        "int layPlank(int,int,int)" + I + A + S, "int setClearness(int)" + A, "int setFog(int,int)" + I + A,
        "int setTarget(int,int)" + I + S, "int undo()" + S, "int saveSnapshot(int)" + I,
        "int restoreSnapshot(int)" + I + N, "int print()", "int printedByte(int)" + I,
    };

    public static void main(String[] args) {
        Check check = new Check();
        Class<?> face = FalseLightMarsh.class;
        check.yes("the class is public and final",
                Modifier.isPublic(face.getModifiers()) && Modifier.isFinal(face.getModifiers()));
        Set<String> methods = new TreeSet<>();
        Set<String> publicNames = new TreeSet<>();
        for (Method method : face.getDeclaredMethods()) {
            if (Modifier.isPublic(method.getModifiers())) {
                methods.add(signature(method));
                publicNames.add(method.getName());
            }
        }
        check.same("the methods", methods.toString(), new TreeSet<>(Set.of(FACE)).toString());
        for (Method method : face.getDeclaredMethods()) {
            if (!Modifier.isPublic(method.getModifiers()) && !method.isSynthetic()) {
                check.yes(method + " is private", Modifier.isPrivate(method.getModifiers()));
                check.no(method + " bears a public name", publicNames.contains(method.getName()));
            }
        }
        for (Field field : face.getDeclaredFields()) {
            check.yes(field + " is private", Modifier.isPrivate(field.getModifiers()));
        }
        Constructor<?>[] constructors = face.getDeclaredConstructors();
        check.same("the number of constructors", constructors.length, 1);
        check.same("the constructor", constructors[0].toString(), "public FalseLightMarsh()");
        check.end();
    }

    private static String signature(Method method) {
        StringBuilder text = new StringBuilder();
        text.append(method.getReturnType().getSimpleName()).append(' ').append(method.getName()).append('(');
        for (Class<?> type : method.getParameterTypes()) {
            text.append(text.charAt(text.length() - 1) == '(' ? "" : ",").append(type.getSimpleName());
        }
        text.append(')');
        for (Class<?> thrown : method.getExceptionTypes()) {
            text.append(' ').append(thrown.getSimpleName());
        }
        return text.toString();
    }
}
