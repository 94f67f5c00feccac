import java.io.IOException;
import java.lang.reflect.InvocationTargetException;
import java.lang.reflect.Method;
import java.lang.reflect.Modifier;
import java.nio.file.Files;
import java.nio.file.Path;
import java.util.Arrays;
import java.util.List;
import java.util.Set;
import java.util.TreeSet;
import java.util.regex.Matcher;
import java.util.regex.Pattern;

/** README.md: it shows each call of the face, and each answer that it tells is the program's. */
public final class ReadmeTest {
    private static final Check CHECK = new Check();

    private static final String ROOM_MADE = "ArmRoom room = new ArmRoom();";
    private static final Pattern CALL = Pattern.compile("room\\.(\\w+)\\((.*?)\\); +// (throws \\w+|-?\\d+)(,.*)?");
    private static final Pattern ROW = Pattern.compile("\\| `(\\w+)\\((.*?)\\)` \\|.*");

    private static final Set<String> CALLED = new TreeSet<>();
    private static final Set<String> IN_ROWS = new TreeSet<>();

    public static void main(String[] args) throws IOException {
        CHECK.promise("README.md");
        List<String> lines = Files.readAllLines(Path.of("README.md"));
        ArmRoom room = null;
        for (String line : lines) {
            if (line.startsWith(ROOM_MADE)) {
                room = new ArmRoom();
            } else if (line.startsWith("room.")) {
                call(room, line);
            }
            row(line);
        }
        CHECK.tell("the calls made", CALLED.toString(), face().toString());
        CHECK.tell("the calls told of", IN_ROWS.toString(), rowsDue().toString());
        CHECK.end("ReadmeTest");
    }

    private static void call(ArmRoom room, String line) {
        Matcher parts = CALL.matcher(line);
        if (room == null || !parts.matches()) {
            CHECK.tell(line, "no call with an answer", "a call with an answer");
            return;
        }
        String[] words = parts.group(2).isEmpty() ? new String[0] : parts.group(2).split(", ");
        CALLED.add(parts.group(1));
        CHECK.tell(line, outcome(room, parts.group(1), words), parts.group(3));
    }

    private static String outcome(ArmRoom room, String name, String[] words) {
        Object[] numbers = new Object[words.length];
        Class<?>[] types = new Class<?>[words.length];
        Arrays.fill(types, int.class);
        try {
            for (int at = 0; at < words.length; at++) {
                numbers[at] = number(words[at]);
            }
            return "" + ArmRoom.class.getMethod(name, types).invoke(room, numbers);
        } catch (InvocationTargetException e) {
            return "throws " + e.getCause().getClass().getSimpleName();
        } catch (ReflectiveOperationException e) {
            return "no such call";
        }
    }

    private static int number(String word) throws ReflectiveOperationException {
        if (word.startsWith("ArmRoom.")) {
            return ArmRoom.class.getField(word.substring("ArmRoom.".length())).getInt(null);
        }
        return Integer.parseInt(word);
    }

    /** Notes how many arguments the row of a call has. */
    private static void row(String line) {
        Matcher parts = ROW.matcher(line);
        if (parts.matches()) {
            int count = parts.group(2).isEmpty() ? 0 : parts.group(2).split(", ").length;
            IN_ROWS.add(parts.group(1) + " " + count);
        }
    }

    private static Set<String> face() {
        Set<String> names = new TreeSet<>();
        for (Method method : ArmRoom.class.getDeclaredMethods()) {
            if (Modifier.isPublic(method.getModifiers())) {
                names.add(method.getName());
            }
        }
        return names;
    }

    private static Set<String> rowsDue() {
        Set<String> rows = new TreeSet<>();
        for (Method method : ArmRoom.class.getDeclaredMethods()) {
            if (Modifier.isPublic(method.getModifiers())) {
                rows.add(method.getName() + " " + method.getParameterCount());
            }
        }
        return rows;
    }
}
