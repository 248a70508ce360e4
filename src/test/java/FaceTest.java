import java.lang.reflect.Constructor;
import java.lang.reflect.Field;
import java.lang.reflect.Method;
import java.lang.reflect.Modifier;
import java.util.Set;
import java.util.TreeSet;

/** The public face is the document's and nothing else, and no call throws or hangs, whatever it is given. */
public final class FaceTest {
    private static final Set<String> METHODS = Set.of(
            "type(int)", "clear()", "tells()", "needs(int)", "wishes(int,int)", "ticks(int)", "undo()",
            "node(int,int)", "register(int,int)", "crossing(int)", "kinds(int)", "join(int,int)", "risk()",
            "period(int)", "wish(int)", "when(int,int)", "keep(int)", "back(int)", "count(int)");
    private static final Set<String> CONSTANTS = Set.of("BAD=-1", "STATE=-2", "FULL=-3", "NONE=-9");
    private static final int[] WILD = {Integer.MIN_VALUE, -1000, -2, -1, 0, 1, 2, 3, 15, 16, 31, 32, 99, 255, Integer.MAX_VALUE};

    private static int wrong = 0;

    public static void main(String[] args) throws ReflectiveOperationException {
        face();
        wildCalls(new ClockCrossings());
        ClockCrossings x = new ClockCrossings();
        for (char letter : "i0;i1;r1 0;r1 2;m3 0 1;r1 4;a0 1;r2 6;g0 1;".toCharArray()) {
            x.type(letter);
        }
        x.tells();
        wildCalls(x);
        System.out.println("the face: " + wrong + " wrong");
        if (wrong != 0) {
            System.exit(1);
        }
    }

    private static void due(String what, Object got, Object want) {
        if (!got.equals(want)) {
            wrong++;
            System.out.println(what + ": " + got + ", due is " + want);
        }
    }

    private static void face() throws ReflectiveOperationException {
        Class<?> face = ClockCrossings.class;
        due("public and final", Modifier.toString(face.getModifiers()), "public final");
        Set<String> methods = new TreeSet<>();
        Set<String> names = new TreeSet<>();
        for (Method method : face.getDeclaredMethods()) {
            if (!Modifier.isPrivate(method.getModifiers())) {
                String said = method.toString();
                due("form of " + said, said.startsWith("public int ClockCrossings."), true);
                methods.add(said.substring(said.lastIndexOf("ClockCrossings.") + 15));
                names.add(method.getName());
            }
        }
        due("methods", methods, new TreeSet<>(METHODS));
        for (Method method : face.getDeclaredMethods()) {
            due("private name " + method, Modifier.isPrivate(method.getModifiers()) && names.contains(method.getName()), false);
        }
        Set<String> constants = new TreeSet<>();
        for (Field field : face.getDeclaredFields()) {
            boolean isStatic = Modifier.isStatic(field.getModifiers());
            due("final, if static: " + field, !isStatic || Modifier.isFinal(field.getModifiers()), true);
            if (!Modifier.isPrivate(field.getModifiers())) {
                due("form of " + field, Modifier.toString(field.getModifiers()) + " " + field.getType(), "public static final int");
                constants.add(field.getName() + "=" + field.getInt(null));
            }
        }
        due("constants", constants, new TreeSet<>(CONSTANTS));
        Constructor<?>[] constructors = face.getDeclaredConstructors();
        due("constructors", constructors.length, 1);
        due("constructor", constructors[0].toString(), "public ClockCrossings()");
    }

    /** What is thrown ends the test by itself. */
    private static void wildCalls(ClockCrossings x) {
        for (int a : WILD) {
            x.type(a);
            x.needs(a);
            x.ticks(a);
            x.crossing(a);
            x.kinds(a);
            x.period(a);
            x.wish(a);
            x.keep(a);
            x.back(a);
            x.count(a);
            for (int b : WILD) {
                x.wishes(a, b);
                x.node(a, b);
                x.register(a, b);
                x.join(a, b);
                x.when(a, b);
            }
        }
        x.risk();
        x.tells();
        x.undo();
        x.clear();
        x.tells();
    }
}
