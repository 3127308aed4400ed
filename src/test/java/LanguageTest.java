import java.io.IOException;
import java.lang.reflect.Constructor;
import java.lang.reflect.Field;
import java.lang.reflect.Method;
import java.lang.reflect.Modifier;
import java.nio.file.Path;
import java.util.Arrays;
import java.util.Set;
import java.util.TreeSet;

/** The face is the document's, and the file keeps to those rules of LANGUAGE.md that a program can look for. */
public final class LanguageTest extends Check {
    private static final String[] FACE = {"letter 1", "road 0", "car 2", "hurry 2", "goOver 1", "standFirst 1", "set 2",
        "order 1", "of 2", "sums 1", "queue 2", "bestBoard 0", "over 1", "first 1", "lets 0", "spoil 1", "mend 1",
        "loses 2", "byWhom 1", "two 2", "fair 0", "lucky 0", "away 0", "wider 0", "gap 1", "even 1", "keep 2", "who 2",
        "row 1", "judge 0", "clear 0", "lots 3", "image 0", "on 0", "count 1"};

    private static void must(boolean holds, String what) {
        if (!holds) {
            fault(what);
        }
    }

    private static void lookAtFace() {
        Class<?> type = OneFromEachLane.class;
        must(Modifier.isPublic(type.getModifiers()) && Modifier.isFinal(type.getModifiers()), "not public and final");
        Set<String> open = new TreeSet<>();
        for (Method method : type.getDeclaredMethods()) {
            if (!method.isSynthetic() && !Modifier.isPrivate(method.getModifiers())) {
                lookAtOpen(method);
                open.add(method.getName() + " " + method.getParameterCount());
            }
        }
        must(open.equals(new TreeSet<>(Arrays.asList(FACE))), "another face: " + open);
        Constructor<?>[] made = type.getDeclaredConstructors();
        must(made.length == 1 && made[0].getParameterCount() == 0 && Modifier.isPublic(made[0].getModifiers()),
            "another constructor");
        for (Field field : type.getDeclaredFields()) {
            must(Modifier.isPrivate(field.getModifiers()), "open: " + field);
        }
    }

    private static void lookAtOpen(Method method) {
        must(Modifier.isPublic(method.getModifiers()), "neither public nor private: " + method);
        must(!Modifier.isStatic(method.getModifiers()), "static: " + method);
        must(method.getReturnType() == int.class, "answers no int: " + method);
        for (Class<?> parameter : method.getParameterTypes()) {
            must(parameter == int.class, "takes no int: " + method);
        }
    }

    /** No private call, and none of the classes inside, bears the name of one of the face. */
    private static void lookAtNames() {
        Set<String> face = new TreeSet<>();
        for (String call : FACE) {
            face.add(call.substring(0, call.indexOf(' ')));
        }
        for (Method method : OneFromEachLane.class.getDeclaredMethods()) {
            boolean isOpen = Modifier.isPublic(method.getModifiers());
            must(isOpen || !face.contains(method.getName()), "a name of the face: " + method);
        }
        for (Class<?> inside : OneFromEachLane.class.getDeclaredClasses()) {
            for (Method method : inside.getDeclaredMethods()) {
                must(!face.contains(method.getName()), "a name of the face: " + method);
            }
        }
    }

    public static void main(String[] args) throws IOException {
        lookAtFace();
        lookAtNames();
        Rules.faultsOf(Path.of("src/main/java/OneFromEachLane.java")).forEach(LanguageTest::fault);
        end();
    }
}
