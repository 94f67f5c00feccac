import java.lang.reflect.Constructor;
import java.lang.reflect.Field;
import java.lang.reflect.Method;
import java.lang.reflect.Modifier;
import java.util.Arrays;
import java.util.Set;
import java.util.TreeSet;

/** The face: what the document writes, and nothing else that is seen from outside. */
public final class FaceTest {
    private static final String[] METHODS = {
        "int branch(int, int, int)", "int branches()", "long far()", "long freedom()", "long goal(int, int)",
        "int hindrance()", "int joint(int, int, int, int)", "int moves(int, int)", "int set(int, int)",
        "int slack(int)", "int steps(int)", "long take(int, int)", "int tip(int)", "int tipAnew(int)",
        "int value(int)"
    };

    private static final Check CHECK = new Check();

    public static void main(String[] args) {
        CHECK.promise("the face");
        CHECK.due("NONE", ArmRoom.NONE, -1);
        CHECK.due("TURN", ArmRoom.TURN, 0);
        CHECK.due("SLIDE", ArmRoom.SLIDE, 1);
        CHECK.due("FAR", ArmRoom.FAR, 0);
        CHECK.due("WAY", ArmRoom.WAY, 1);
        CHECK.due("HEADING", ArmRoom.HEADING, 2);
        CHECK.tell("the class", Modifier.toString(ArmRoom.class.getModifiers()), "public final");
        CHECK.tell("the methods", methods(), new TreeSet<>(Arrays.asList(METHODS)).toString());
        CHECK.tell("the constants", constants(), "[FAR, HEADING, NONE, SLIDE, TURN, WAY]");
        constructors();
        inside();
        CHECK.end("FaceTest");
    }

    private static String methods() {
        Set<String> seen = new TreeSet<>();
        for (Method method : ArmRoom.class.getDeclaredMethods()) {
            if (!Modifier.isPrivate(method.getModifiers())) {
                seen.add(signature(method));
                CHECK.due(method.getName() + " is public", method.getModifiers(), Modifier.PUBLIC);
            } else {
                CHECK.due("a private method of a public name, " + method.getName(), named(method.getName()), 0);
            }
        }
        return seen.toString();
    }

    private static String signature(Method method) {
        StringBuilder text = new StringBuilder(method.getReturnType().getName());
        text.append(' ').append(method.getName()).append('(');
        String gap = "";
        for (Class<?> type : method.getParameterTypes()) {
            text.append(gap).append(type.getName());
            gap = ", ";
        }
        return text.append(')').toString();
    }

    private static int named(String name) {
        int count = 0;
        for (String signature : METHODS) {
            count += signature.contains(" " + name + "(") ? 1 : 0;
        }
        return count;
    }

    private static String constants() {
        Set<String> seen = new TreeSet<>();
        for (Field field : ArmRoom.class.getDeclaredFields()) {
            if (!Modifier.isPrivate(field.getModifiers())) {
                seen.add(field.getName());
                CHECK.tell(field.getName(), Modifier.toString(field.getModifiers()), "public static final");
            }
        }
        return seen.toString();
    }

    private static void constructors() {
        Constructor<?>[] all = ArmRoom.class.getDeclaredConstructors();
        CHECK.due("constructors", all.length, 1);
        CHECK.tell("the constructor", all[0].toString(), "public ArmRoom()");
    }

    private static void inside() {
        for (Class<?> type : ArmRoom.class.getDeclaredClasses()) {
            boolean seen = Modifier.isPublic(type.getModifiers()) || Modifier.isProtected(type.getModifiers());
            CHECK.due(type.getName() + " is seen from outside", seen ? 1 : 0, 0);
            CHECK.due(type.getName() + " is static", Modifier.isStatic(type.getModifiers()) ? 1 : 0, 1);
        }
    }
}
