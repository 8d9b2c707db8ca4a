import java.lang.reflect.Constructor;
import java.lang.reflect.Field;
import java.lang.reflect.Member;
import java.lang.reflect.Method;
import java.lang.reflect.Modifier;
import java.util.Arrays;
import java.util.Set;
import java.util.TreeSet;

/** The public face is that of the document, no more and no less. */
public final class FaceTest {
    private static final String[] METHODS = {"write 1", "erase 0", "fault 0", "tell 0", "sign 3", "turn 3", "point 2", "set 4",
        "place 4", "flip 1", "swap 2", "add 3", "drop 1", "draw 0", "undo 0", "keep 1", "back 1", "five 5", "is 1", "vector 3",
        "beside 1", "between 3", "mutation 1", "extensions 0", "box 3", "lay 4", "compose 3", "seen 3", "find 3", "away 1", "count 1"};
    private static final String[] CONSTANTS = {"NONE -1", "UNKNOWN -1001", "OUTSIDE -1002", "NOT -1003", "FULL -1004", "NULL -1011",
        "SIZE -1012", "INDEX -1013", "STORE -1014", "EMPTY -1015", "OTHER -1016"};
    private static int wrong = 0;

    public static void main(String[] args) throws IllegalAccessException {
        Class<?> face = SignTriples.class;
        due("class", Modifier.toString(face.getModifiers()), "public final");
        due("constructors", face.getDeclaredConstructors().length, 1);
        for (Constructor<?> c : face.getDeclaredConstructors()) {
            due("constructor", Modifier.toString(c.getModifiers()) + c.getParameterCount(), "public0");
        }
        due("methods", methods(face), new TreeSet<>(Arrays.asList(METHODS)));
        due("constants", constants(face), new TreeSet<>(Arrays.asList(CONSTANTS)));
        inside(face);
        System.out.println(wrong == 0 ? "face: as the document has it" : "face: " + wrong + " things are not as due");
        if (wrong != 0) {
            System.exit(1);
        }
    }

    private static void due(String what, Object got, Object want) {
        if (!got.equals(want)) {
            wrong++;
            System.out.println(what + ": " + got + ", due is " + want);
        }
    }

    private static Set<String> methods(Class<?> face) {
        Set<String> all = new TreeSet<>();
        for (Method m : face.getDeclaredMethods()) {
            if (isSeen(m)) {
                all.add(m.getName() + " " + m.getParameterCount());
                due("how " + m.getName() + " is told", Modifier.toString(m.getModifiers()) + " " + m.getReturnType(), "public int");
                due("what " + m.getName() + " takes", Arrays.stream(m.getParameterTypes()).allMatch(t -> t == int.class), true);
            }
        }
        return all;
    }

    private static Set<String> constants(Class<?> face) throws IllegalAccessException {
        Set<String> all = new TreeSet<>();
        for (Field f : face.getDeclaredFields()) {
            if (isSeen(f)) {
                due("how " + f.getName() + " is told", Modifier.toString(f.getModifiers()) + " " + f.getType(), "public static final int");
                all.add(f.getName() + " " + f.get(null));
            }
        }
        return all;
    }

    /** Classes inside are static and not public; nothing static in them or outside can change; no name of the face is used again. */
    private static void inside(Class<?> face) {
        due("at most twelve classes", face.getDeclaredClasses().length <= 11, true);
        for (Class<?> c : face.getDeclaredClasses()) {
            due(c.getName() + " is static", Modifier.isStatic(c.getModifiers()), true);
            due(c.getName() + " is public", Modifier.isPublic(c.getModifiers()), false);
            for (Method m : c.getDeclaredMethods()) {
                due(c.getName() + "." + m.getName() + " has a name of the face",
                    Arrays.stream(METHODS).anyMatch(told -> told.startsWith(m.getName() + " ")), false);
                due(m.getName() + " takes at most seven", m.getParameterCount() <= 7, true);
            }
            for (Field f : c.getDeclaredFields()) {
                due(c.getName() + "." + f.getName() + " is static and changes",
                    Modifier.isStatic(f.getModifiers()) && !Modifier.isFinal(f.getModifiers()), false);
            }
        }
        for (Method m : face.getDeclaredMethods()) {
            due(m.getName() + " is private and has a name of the face", Modifier.isPrivate(m.getModifiers())
                && Arrays.stream(METHODS).anyMatch(told -> told.startsWith(m.getName() + " ")), false);
        }
    }

    private static boolean isSeen(Member m) {
        return !m.isSynthetic() && !Modifier.isPrivate(m.getModifiers());
    }
}
