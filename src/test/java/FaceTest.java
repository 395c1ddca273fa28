import java.lang.reflect.Constructor;
import java.lang.reflect.Executable;
import java.lang.reflect.Field;
import java.lang.reflect.Method;
import java.lang.reflect.Modifier;
import java.util.ArrayList;
import java.util.List;

/**
 * The public face, declaration by declaration, as the document writes it: what each answers and takes, and that
 * nothing else of the class can be seen. What a caller compiles against is looked at, not the source.
 */
public final class FaceTest {
    static final String[] DECLARATIONS = {
        "public RoomsByThree();",
        "public int letters(long w);",
        "public int blank();",
        "public int fault(int sort);",
        "public int house();",
        "public int tell();",
        "public int rule(int kind, int n);",
        "public int as(int rule, int kind);",
        "public int room(int room, int what);",
        "public int woman(int woman, int what);",
        "public int guest(int guest, int what);",
        "public int late(int room, int quarter);",
        "public int lift(int floors);",
        "public int gone(int room, int way);",
        "public int done(int rule, int way, int room, int what);",
        "public int given(int rule, int way, int giving, int guest, int what);",
        "public int cost(int rule, int way, int giving);",
        "public int mean(int rule, int giving, int part);",
        "public int worst(int rule, int giving, int what);",
        "public int sure(int rule, int giving, int guest, int quarters, int part);",
        "public int tells(int rule, int giving, int guest, int tenths);",
        "public int run(int rule, int giving, int seed, int what);",
        "public int best(int giving, int i);",
        "public int call(int giving, int room, int part);",
        "public int called(int giving);",
        "public int missed(int rule, int giving);",
        "public int more(int rule, int giving, int part);",
        "public int which(int giving);",
        "public int image();",
        "public int restore();",
        "public int count(int what);",
        "public long digest();",
    };

    public static void main(String[] args) {
        theClass();
        theConstants();
        theCalls();
        Checks.end();
    }

    static void theClass() {
        Checks.says("public final class RoomsByThree {");
        int modifiers = RoomsByThree.class.getModifiers();
        Checks.due("its modifiers", modifiers, Modifier.PUBLIC | Modifier.FINAL);
        holds("it has no class above it", RoomsByThree.class.getSuperclass() == Object.class);
        Checks.due("interfaces", RoomsByThree.class.getInterfaces().length, 0);
        holds("it has no package", RoomsByThree.class.getPackageName().isEmpty());
    }

    static void theConstants() {
        Checks.says("public static final int NONE = -1, UNKNOWN = -101, OUTSIDE = -102, STATE = -103, FULL = -104;");
        List<String> seen = new ArrayList<>();
        for (Field field : RoomsByThree.class.getDeclaredFields()) {
            if (!Modifier.isPrivate(field.getModifiers())) {
                seen.add(field.getName());
                Checks.due("modifiers of " + field.getName(), field.getModifiers(),
                        Modifier.PUBLIC | Modifier.STATIC | Modifier.FINAL);
                holds(field.getName() + " is an int", field.getType() == int.class);
            }
        }
        holds("these five, and no other: " + seen, seen.equals(List.of("NONE", "UNKNOWN", "OUTSIDE", "STATE", "FULL")));
    }

    static void theCalls() {
        List<String> seen = new ArrayList<>();
        for (Constructor<?> made : RoomsByThree.class.getDeclaredConstructors()) {
            seen.add(told(made, "RoomsByThree"));
        }
        for (Method method : RoomsByThree.class.getDeclaredMethods()) {
            if (!Modifier.isPrivate(method.getModifiers()) && !method.isSynthetic()) {
                seen.add(told(method, method.getReturnType() + " " + method.getName()));
            }
        }
        for (String declaration : DECLARATIONS) {
            Checks.says(declaration);
            String due = withoutNames(declaration);
            holds("it stands in the class as '" + due + "'", seen.remove(due));
        }
        Checks.says("The public face");
        holds("nothing else can be seen: " + seen, seen.isEmpty());
    }

    static void holds(String what, boolean so) {
        Checks.due(what, so ? 1 : 0, 1);
    }

    /** A call as the document writes it, without the names of what it takes. */
    static String told(Executable call, String name) {
        StringBuilder s = new StringBuilder();
        String modifiers = Modifier.toString(call.getModifiers());
        s.append(modifiers).append(modifiers.isEmpty() ? "" : " ").append(name).append('(');
        String between = "";
        for (Class<?> type : call.getParameterTypes()) {
            s.append(between).append(type);
            between = ", ";
        }
        s.append(')');
        between = " throws ";
        for (Class<?> type : call.getExceptionTypes()) {
            s.append(between).append(type.getName());
            between = ", ";
        }
        return s.append(';').toString();
    }

    static String withoutNames(String declaration) {
        return declaration.replaceAll("(int|long) \\w+(?=[,)])", "$1");
    }
}
