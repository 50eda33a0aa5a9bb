import java.lang.reflect.Constructor;
import java.lang.reflect.Field;
import java.lang.reflect.Method;
import java.lang.reflect.Modifier;
import java.util.Arrays;
import java.util.Map;
import java.util.TreeMap;

/** The public face is the document's, and there is nothing besides it. */
public final class FaceTest {
    private static final String[] METHODS = {"month 6", "change 3", "about 2", "tear 0", "stock 3", "stand 2",
        "say 1", "wipe 0", "fault 0", "rule 0", "free 0", "fits 2", "needs 3", "judge 2", "lies 4", "all 1", "ends 3",
        "must 1", "plain 1", "near 1", "doubt 1", "changed 1", "cost 3", "costs 3", "buy 4", "settle 1", "hide 2",
        "image 1", "restore 1", "told 1"};

    private static int wrong;

    private static void due(String what, Object got, Object want) {
        if (!want.equals(got)) {
            wrong++;
            System.out.println(what + ": " + got + ", due is " + want);
        }
    }

    private static boolean isPrivate(int modifiers) {
        return Modifier.isPrivate(modifiers);
    }

    private static void methods() {
        String[] got = Arrays.stream(WorkedBack.class.getDeclaredMethods())
                .filter(m -> !isPrivate(m.getModifiers()))
                .map(m -> m.getName() + " " + m.getParameterCount()).sorted().toArray(String[]::new);
        String[] want = METHODS.clone();
        Arrays.sort(want);
        due("methods", Arrays.toString(got), Arrays.toString(want));
        for (Method m : WorkedBack.class.getDeclaredMethods()) {
            if (isPrivate(m.getModifiers())) continue;
            due(m.getName() + " is public and of an object", m.getModifiers(), Modifier.PUBLIC);
            due(m.getName() + " answers", m.getReturnType(), int.class);
            for (Class<?> type : m.getParameterTypes()) due(m.getName() + " takes", type, int.class);
        }
    }

    private static void constants() throws IllegalAccessException {
        Map<String, Integer> got = new TreeMap<>();
        for (Field f : WorkedBack.class.getDeclaredFields()) {
            if (isPrivate(f.getModifiers())) continue;
            due(f.getName(), f.getModifiers(), Modifier.PUBLIC | Modifier.STATIC | Modifier.FINAL);
            due(f.getName(), f.getType(), int.class);
            got.put(f.getName(), f.getInt(null));
        }
        due("constants", got, new TreeMap<>(Map.of("NONE", -6, "UNKNOWN", -1, "OUTSIDE", -2, "STATE", -3, "FULL", -4,
                "NO", -5, "GONE", -1000000)));
    }

    private static void shape() {
        due("the class", WorkedBack.class.getModifiers(), Modifier.PUBLIC | Modifier.FINAL);
        Constructor<?>[] made = WorkedBack.class.getDeclaredConstructors();
        due("constructors", made.length, 1);
        due("the constructor", made[0].getModifiers() + " " + made[0].getParameterCount(), Modifier.PUBLIC + " 0");
        for (Class<?> inside : WorkedBack.class.getDeclaredClasses()) {
            due(inside.getName() + " is static", Modifier.isStatic(inside.getModifiers()), true);
            due(inside.getName() + " is hidden", Modifier.isPublic(inside.getModifiers()), false);
            for (Method m : inside.getDeclaredMethods()) {
                boolean taken = Arrays.stream(METHODS).anyMatch(name -> name.startsWith(m.getName() + " "));
                due(inside.getName() + "." + m.getName() + " bears a name of the face", taken, false);
                due(m.getName() + " takes at most seven", m.getParameterCount() <= 7, true);
            }
            for (Field f : inside.getDeclaredFields()) {
                boolean fine = !Modifier.isStatic(f.getModifiers()) || Modifier.isFinal(f.getModifiers());
                due(f.getName() + " is no static state", fine, true);
            }
        }
        due("classes are some twelve, with the outer one", WorkedBack.class.getDeclaredClasses().length < 12, true);
    }

    public static void main(String[] args) throws IllegalAccessException {
        methods();
        constants();
        shape();
        System.out.println(wrong == 0 ? "the face is as due" : wrong + " things about the face are not as due");
        if (wrong != 0) System.exit(1);
    }
}
