import java.io.IOException;
import java.lang.reflect.Constructor;
import java.lang.reflect.Field;
import java.lang.reflect.Method;
import java.lang.reflect.Modifier;
import java.nio.file.Files;
import java.nio.file.Path;
import java.util.ArrayList;
import java.util.Arrays;
import java.util.List;
import java.util.Set;
import java.util.TreeSet;
import java.util.regex.Matcher;
import java.util.regex.Pattern;

/** The face is the document's, and the file keeps to those rules of LANGUAGE.md that a program can look for. */
public final class LanguageTest {
    private static final String[] FACE = {"letter 1", "road 0", "car 2", "hurry 2", "goOver 1", "standFirst 1", "set 2",
        "order 1", "of 2", "sums 1", "queue 2", "bestBoard 0", "over 1", "first 1", "lets 0", "spoil 1", "mend 1",
        "loses 2", "byWhom 1", "two 2", "fair 0", "lucky 0", "away 0", "wider 0", "gap 1", "even 1", "keep 2", "who 2",
        "row 1", "judge 0", "clear 0", "lots 3", "image 0", "on 0", "count 1"};
    private static final String[] RULED_OUT = {"throw", "throws", "try", "catch", "finally", "synchronized", "assert",
        "import", "package", "protected", "volatile", "native", "hashCode", "toString", "Exact", "->", "::", "System",
        "Thread", "Random", "Object", "MAX_VALUE", "MIN_VALUE"};

    private static int wrong = 0;

    private static void must(boolean holds, String what) {
        if (!holds) {
            wrong++;
            System.out.println(what);
        }
    }

    private static void lookAtFace() {
        Class<?> type = OneFromEachLane.class;
        must(Modifier.isPublic(type.getModifiers()) && Modifier.isFinal(type.getModifiers()), "not public and final");
        Set<String> open = new TreeSet<>();
        Set<String> openNames = new TreeSet<>();
        for (Method method : type.getDeclaredMethods()) {
            if (!method.isSynthetic() && !Modifier.isPrivate(method.getModifiers())) {
                must(Modifier.isPublic(method.getModifiers()), "neither public nor private: " + method);
                must(!Modifier.isStatic(method.getModifiers()), "static: " + method);
                must(method.getReturnType() == int.class, "answers no int: " + method);
                for (Class<?> parameter : method.getParameterTypes()) {
                    must(parameter == int.class, "takes no int: " + method);
                }
                open.add(method.getName() + " " + method.getParameterCount());
                openNames.add(method.getName());
            }
        }
        must(open.equals(new TreeSet<>(Arrays.asList(FACE))), "another face: " + open);
        Constructor<?>[] made = type.getDeclaredConstructors();
        must(made.length == 1 && made[0].getParameterCount() == 0 && Modifier.isPublic(made[0].getModifiers()),
            "another constructor");
        List<Class<?>> all = new ArrayList<>(Arrays.asList(type.getDeclaredClasses()));
        must(all.size() < 12, "too many classes");
        for (Class<?> inner : all) {
            must(Modifier.isStatic(inner.getModifiers()) && !Modifier.isPublic(inner.getModifiers()), "class " + inner);
            for (Method method : inner.getDeclaredMethods()) {
                must(!openNames.contains(method.getName()), "bears a name of the face: " + method);
            }
        }
        all.add(type);
        all.forEach(LanguageTest::lookAtMembers);
    }

    private static void lookAtMembers(Class<?> type) {
        int fields = 0;
        for (Field field : type.getDeclaredFields()) {
            boolean isStatic = Modifier.isStatic(field.getModifiers());
            must(!isStatic || Modifier.isFinal(field.getModifiers()), "static and not final: " + field);
            must(type != OneFromEachLane.class || Modifier.isPrivate(field.getModifiers()), "open: " + field);
            fields += isStatic ? 0 : 1;
        }
        must(fields <= 20, "too many fields in " + type);
        for (Method method : type.getDeclaredMethods()) {
            must(method.getParameterCount() <= 7, "too many parameters: " + method);
        }
    }

    private static void lookAtText(String text) {
        for (String word : RULED_OUT) {
            boolean isWord = Character.isLetter(word.charAt(0)) && !word.equals("Exact");
            Matcher found = Pattern.compile(isWord ? "\\b" + word + "\\b" : Pattern.quote(word)).matcher(text);
            must(!found.find(), "ruled out: " + word);
        }
        must(text.chars().allMatch(c -> c < 128), "a sign beyond 127");
    }

    /** A member ends with the first brace that stands as far in as it did. */
    private static void lookAtLengths(String text) {
        String[] lines = text.split("\n");
        for (int i = 0; i < lines.length; i++) {
            boolean opens = lines[i].matches("( {4}| {8})\\S.*\\) \\{");
            if (opens) {
                String end = lines[i].substring(0, lines[i].indexOf(lines[i].trim())) + "}";
                int last = i;
                while (last < lines.length && !lines[last].equals(end)) {
                    last++;
                }
                must(last - i <= 60, "too long: " + lines[i]);
            }
        }
    }

    private static String withoutComments(String text) {
        return text.replaceAll("(?s)/\\*.*?\\*/", "").replaceAll("//[^\n]*", "");
    }

    public static void main(String[] args) throws IOException {
        lookAtFace();
        String text = Files.readString(Path.of("src/main/java/OneFromEachLane.java"));
        lookAtText(withoutComments(text));
        lookAtLengths(text);
        System.out.println(wrong == 0 ? "the rules are kept" : wrong + " faults");
        if (wrong != 0) {
            System.exit(1);
        }
    }
}
