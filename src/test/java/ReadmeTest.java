import java.io.IOException;
import java.lang.reflect.Method;
import java.lang.reflect.Modifier;
import java.nio.file.Files;
import java.nio.file.Path;
import java.util.ArrayList;
import java.util.List;
import java.util.Set;
import java.util.TreeSet;
import java.util.regex.Matcher;
import java.util.regex.Pattern;

/** The calls that README.md shows answer what it says behind them, and it shows each call of the class. */
public final class ReadmeTest extends Check {
    private static final String BEGINNING = "OneFromEachLane x = new OneFromEachLane();";
    private static final Pattern ROAD = Pattern.compile("tell\\(x, \"([^\"]*)\"\\); +// (-?\\d+).*");
    private static final Pattern CALL = Pattern.compile("x\\.(\\w+)\\(([^()]*)\\); +// (-?\\d+).*");

    private static OneFromEachLane x = null;
    private static final Set<String> shown = new TreeSet<>();

    /** The blocks of code that tell of calls, not the one that tells what tell is. */
    private static List<String> linesOfCalls(String page) {
        List<String> lines = new ArrayList<>();
        Matcher blocks = Pattern.compile("(?s)```java\n(.*?)```").matcher(page);
        while (blocks.find()) {
            if (!blocks.group(1).startsWith("static int tell")) {
                lines.addAll(blocks.group(1).lines().toList());
            }
        }
        return lines;
    }

    private static void look(String line) throws ReflectiveOperationException {
        Matcher road = ROAD.matcher(line);
        Matcher call = CALL.matcher(line);
        if (line.equals(BEGINNING)) {
            x = new OneFromEachLane();
        } else if (x == null) {
            fault("README.md: no object for: " + line);
        } else if (road.matches()) {
            due("README.md: " + line, tell(x, road.group(1)), Integer.parseInt(road.group(2)));
        } else if (call.matches()) {
            due("README.md: " + line, answer(call.group(1), call.group(2)), Integer.parseInt(call.group(3)));
        } else {
            fault("README.md: neither a call nor its answer: " + line);
        }
    }

    private static int answer(String name, String told) throws ReflectiveOperationException {
        String[] numbers = told.isEmpty() ? new String[0] : told.split(", ");
        Class<?>[] types = new Class<?>[numbers.length];
        Object[] values = new Object[numbers.length];
        for (int i = 0; i < numbers.length; i++) {
            types[i] = int.class;
            values[i] = numbers[i].startsWith("'") ? numbers[i].charAt(1) : Integer.parseInt(numbers[i]);
        }
        shown.add(name);
        return (int) OneFromEachLane.class.getMethod(name, types).invoke(x, values);
    }

    public static void main(String[] args) throws IOException, ReflectiveOperationException {
        for (String line : linesOfCalls(Files.readString(Path.of("README.md")))) {
            look(line);
        }
        for (Method method : OneFromEachLane.class.getDeclaredMethods()) {
            if (Modifier.isPublic(method.getModifiers()) && !shown.contains(method.getName())) {
                fault("README.md shows no " + method.getName());
            }
        }
        end();
    }
}
