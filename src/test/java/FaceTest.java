import java.lang.reflect.Constructor;
import java.lang.reflect.Field;
import java.lang.reflect.Method;
import java.lang.reflect.Modifier;
import java.util.Arrays;
import java.util.Set;
import java.util.TreeSet;

/** The public face: the constructor and every method of the document, and nothing else that is not private. */
public final class FaceTest {
    private static final String[] FACE = {
        "int feed(int,int,int,int,int) throws IllegalStateException",
        "int trim(int) throws IllegalArgumentException",
        "int teach()",
        "int errorAt()",
        "int towers()",
        "int pigeons()",
        "int day()",
        "int ordersCarriedOut()",
        "int trapped()",
        "int wetTowers()",
        "int widestPool()",
        "int highest()",
        "int seenFromLeft()",
        "int seenFromRight()",
        "int heightOf(int) throws IndexOutOfBoundsException",
        "boolean isSeenFromLeft(int) throws IndexOutOfBoundsException",
        "int nextTallerLeft(int) throws IndexOutOfBoundsException",
        "int nextTallerRight(int) throws IndexOutOfBoundsException",
        "int waterOn(int) throws IndexOutOfBoundsException",
        "int pigeonsOn(int) throws IndexOutOfBoundsException",
        "int heardOn(int) throws IndexOutOfBoundsException",
        "int placeOf(int) throws IndexOutOfBoundsException",
        "int loudnessOf(int) throws IndexOutOfBoundsException",
        "boolean hears(int,int) throws IndexOutOfBoundsException",
        "int noiseAt(int) throws IndexOutOfBoundsException",
        "int quietest()",
        "int hop(int,boolean) throws IndexOutOfBoundsException,IllegalStateException",
        "int glide(int,boolean) throws IndexOutOfBoundsException,IllegalStateException",
        "int build(int) throws IndexOutOfBoundsException,IllegalStateException",
        "int wear(int) throws IndexOutOfBoundsException,IllegalStateException",
        "int passDays(int) throws IllegalArgumentException",
        "int trappedAfter(int) throws IllegalArgumentException",
        "int daysUntilHeard(int,int) throws IndexOutOfBoundsException",
        "int trappedWith(int,int) throws IndexOutOfBoundsException,IllegalArgumentException",
        "int bestToBuild()",
        "int quietestTower(int) throws IndexOutOfBoundsException",
        "double meanHeight()",
        "long digest()",
    };

    public static void main(String[] args) {
        methods();
        otherMembers();
        Checks.end();
    }

    private static void methods() {
        Set<String> got = new TreeSet<>();
        Set<String> privateNames = new TreeSet<>();
        Set<String> publicNames = new TreeSet<>();
        for (Method method : RoofPigeons.class.getDeclaredMethods()) {
            if (Modifier.isPrivate(method.getModifiers())) {
                privateNames.add(method.getName());
            } else {
                publicNames.add(method.getName());
                got.add((Modifier.isPublic(method.getModifiers()) ? "" : "not public: ") + told(method));
            }
        }
        Checks.due("the methods", got, new TreeSet<>(Arrays.asList(FACE)));
        privateNames.retainAll(publicNames);
        Checks.due("private methods with the name of a public one", privateNames, Set.of());
    }

    private static String told(Method method) {
        StringBuilder text = new StringBuilder(method.getReturnType().getName()).append(' ').append(method.getName()).append('(');
        String comma = "";
        for (Class<?> parameter : method.getParameterTypes()) {
            text.append(comma).append(parameter.getName());
            comma = ",";
        }
        text.append(')');
        comma = " throws ";
        for (Class<?> thrown : method.getExceptionTypes()) {
            text.append(comma).append(thrown.getSimpleName());
            comma = ",";
        }
        return text.toString();
    }

    private static void otherMembers() {
        Checks.due("public final", RoofPigeons.class.getModifiers(), Modifier.PUBLIC | Modifier.FINAL);
        Constructor<?>[] constructors = RoofPigeons.class.getDeclaredConstructors();
        Checks.due("constructors", constructors.length, 1);
        Checks.due("the constructor", constructors[0].toString(), "public RoofPigeons()");
        for (Field field : RoofPigeons.class.getDeclaredFields()) {
            Checks.due("private field " + field.getName(), Modifier.isPrivate(field.getModifiers()), true);
        }
        for (Class<?> inside : RoofPigeons.class.getDeclaredClasses()) {
            boolean isHidden = (inside.getModifiers() & (Modifier.PUBLIC | Modifier.PROTECTED)) == 0;
            Checks.due("hidden and static class " + inside.getName(), isHidden && Modifier.isStatic(inside.getModifiers()), true);
        }
    }
}
