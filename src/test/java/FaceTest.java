import java.io.IOException;
import java.lang.reflect.Constructor;
import java.lang.reflect.Field;
import java.lang.reflect.Method;
import java.lang.reflect.Modifier;
import java.nio.file.Files;
import java.nio.file.Path;
import java.util.Arrays;
import java.util.Set;
import java.util.TreeSet;
import java.util.regex.Matcher;
import java.util.regex.Pattern;
import java.util.stream.Collectors;

/** The public face of the document, and those rules of LANGUAGE.md that can be seen from outside. */
public final class FaceTest {
    private static final String[] FACE = {
        "int files(int)", "int write(int, int, int)", "int erase(int, int)", "int snap(int, int)",
        "int tag(int, int)", "int mark(int)", "int remove(int)", "int fork(int)", "int promote(int)",
        "int rollback(int)", "int tick()", "int told(int, int)", "int slot(int, int)", "int block(int, int)",
        "int taken(int, int)", "int dead(int, int)", "long deadList(int, int)", "long space(int)",
        "long alone(int)", "long range(int, int)", "long since(int, int)", "long common(int, int)",
        "long most(int, int)", "int fewest(int, long)", "int expire(int, int, int)",
        "int sheet(int, int, int)", "int cell(int, int, long)", "long item(int, int)",
        "int differ(int, int, int)", "int apply(int, int, int)", "long drawn(int, int, int)", "int image()",
        "int back()", "int count(int)"};
    private static final Path SOURCE = Path.of("src/main/java/DeadListPool.java");
    private static final Check CHECK = new Check("FaceTest");

    public static void main(String[] args) throws IOException {
        members();
        constants();
        nested();
        words();
        CHECK.end();
    }

    private static void members() {
        Set<String> found = new TreeSet<>();
        for (Method m : DeadListPool.class.getDeclaredMethods()) {
            if (Modifier.isPublic(m.getModifiers())) {
                String types = Arrays.stream(m.getParameterTypes()).map(Class::getName).collect(Collectors.joining(", "));
                found.add(m.getReturnType().getName() + " " + m.getName() + "(" + types + ")");
            } else {
                CHECK.isTrue("private: " + m, Modifier.isPrivate(m.getModifiers()));
            }
        }
        for (String one : FACE) {
            CHECK.isTrue("has " + one, found.remove(one));
        }
        CHECK.isTrue("has no other: " + found, found.isEmpty());
        Constructor<?>[] all = DeadListPool.class.getDeclaredConstructors();
        CHECK.due("constructors", all.length, 1);
        CHECK.isTrue("public constructor", Modifier.isPublic(all[0].getModifiers()) && all[0].getParameterCount() == 0);
        int flags = DeadListPool.class.getModifiers();
        CHECK.isTrue("public and final", Modifier.isPublic(flags) && Modifier.isFinal(flags));
    }

    private static void constants() {
        CHECK.due("NONE", DeadListPool.NONE, -1);
        CHECK.due("BAD", DeadListPool.BAD, -2);
        CHECK.due("STATE", DeadListPool.STATE, -3);
        CHECK.due("FULL", DeadListPool.FULL, -4);
        CHECK.due("NO", DeadListPool.NO, -4611686018427387904L);
        Set<String> open = new TreeSet<>();
        for (Field f : DeadListPool.class.getDeclaredFields()) {
            if (!Modifier.isPrivate(f.getModifiers())) {
                open.add(f.getName());
            }
        }
        CHECK.isTrue("open fields: " + open, open.equals(Set.of("NONE", "BAD", "STATE", "FULL", "NO")));
    }

    private static void nested() {
        Set<String> names = new TreeSet<>();
        for (String one : FACE) {
            names.add(one.substring(one.indexOf(' ') + 1, one.indexOf('(')));
        }
        Class<?>[] inside = DeadListPool.class.getDeclaredClasses();
        CHECK.isTrue("some twelve classes", inside.length <= 12);
        for (Class<?> c : inside) {
            int flags = c.getModifiers();
            CHECK.isTrue("static and not public: " + c, Modifier.isStatic(flags) && !Modifier.isPublic(flags));
            for (Method m : c.getDeclaredMethods()) {
                CHECK.isTrue("a name of its own: " + m, !names.contains(m.getName()));
                CHECK.isTrue("seven parameters: " + m, m.getParameterCount() <= 7);
            }
            long own = Arrays.stream(c.getDeclaredFields()).filter(f -> !Modifier.isStatic(f.getModifiers())).count();
            CHECK.isTrue("some twenty fields: " + c, own <= 20);
            for (Field f : c.getDeclaredFields()) {
                int f1 = f.getModifiers();
                CHECK.isTrue("no static state: " + f, !Modifier.isStatic(f1) || Modifier.isFinal(f1));
            }
        }
    }

    private static void words() throws IOException {
        String text = Files.readString(SOURCE);
        CHECK.isTrue("plain signs", text.chars().allMatch(c -> c < 128));
        String code = text.replaceAll("(?s)/\\*.*?\\*/", " ").replaceAll("//[^\n]*", " ");
        String ruledOut = "\\b(import|throw|throws|try|catch|finally|synchronized|assert|package|protected|native|volatile|"
            + "transient|var|Exact|Random|Thread|nanoTime|currentTimeMillis)\\b|->|::|Exact\\(|\\bstatic\\s*\\{";
        Matcher m = Pattern.compile(ruledOut).matcher(code);
        while (m.find()) {
            CHECK.isTrue("ruled out: " + m.group(), false);
        }
        Matcher calls = Pattern.compile("\\b(Integer|Long|Math|System|Arrays|String|Object)\\.(\\w+)").matcher(code);
        Set<String> library = Set.of("Integer.bitCount", "Integer.compare", "Math.max", "Math.min", "System.arraycopy");
        while (calls.find()) {
            CHECK.isTrue("library: " + calls.group(), library.contains(calls.group()));
        }
    }
}
