import java.io.IOException;
import java.lang.reflect.Method;
import java.lang.reflect.Modifier;
import java.net.URL;
import java.net.URLClassLoader;
import java.nio.file.Files;
import java.nio.file.Path;
import java.util.Comparator;
import java.util.List;
import java.util.regex.Matcher;
import java.util.regex.Pattern;
import java.util.stream.Stream;
import javax.tools.ToolProvider;

/** README.md is true: its examples compile, each call answers the number behind it, and every call is named. */
public final class ReadmeTest {
    private static final Pattern EXAMPLE = Pattern.compile("(?s)```java\n(.*?)```");
    private static final Pattern NAMED_ANSWER = Pattern.compile("int (\\w+) = (pool\\..*\\)); +// (-?\\d+)(: .*)?");
    private static final Pattern ANSWER = Pattern.compile("(pool\\..*\\)); +// (-?\\d+)(: .*)?");
    private static final String MAKING = "DeadListPool pool = new DeadListPool();";
    private static final Check CHECK = new Check("ReadmeTest");

    public static void main(String[] args) throws IOException, ReflectiveOperationException {
        String page = Files.readString(Path.of("README.md"));
        examples(page);
        everyCallIsShown(page);
        CHECK.end();
    }

    /** For the examples, once they are compiled. */
    public static void due(String call, long got, long want) {
        CHECK.due(call, got, want);
    }

    private static void examples(String page) throws IOException, ReflectiveOperationException {
        StringBuilder source = new StringBuilder("public final class ReadmeExamples {\n");
        int found = 0;
        for (Matcher m = EXAMPLE.matcher(page); m.find(); found++) {
            source.append("public static void example").append(found).append("(){\n");
            m.group(1).lines().forEach(line -> source.append(checked(line)).append('\n'));
            source.append("}\n");
        }
        CHECK.isTrue("there are examples", found > 0);
        Path folder = Files.createTempDirectory("readme");
        try {
            run(folder, source.append("}\n").toString());
        } finally {
            drop(folder);
        }
    }

    /** The line as it stands, with its answer looked at. */
    private static String checked(String line) {
        Matcher named = NAMED_ANSWER.matcher(line);
        if (named.matches()) {
            return line + "\n" + look(named.group(2), named.group(1), named.group(3));
        }
        Matcher plain = ANSWER.matcher(line);
        if (plain.matches()) {
            return look(plain.group(1), plain.group(1), plain.group(2));
        }
        CHECK.isTrue("a line with an answer behind it: " + line, line.equals(MAKING));
        return line;
    }

    private static String look(String call, String value, String want) {
        return "ReadmeTest.due(\"" + call + "\", " + value + ", " + want + "L);";
    }

    private static void run(Path folder, String source) throws IOException, ReflectiveOperationException {
        Path file = folder.resolve("ReadmeExamples.java");
        Files.writeString(file, source);
        String classPath = System.getProperty("java.class.path");
        int code = ToolProvider.getSystemJavaCompiler()
            .run(null, null, null, "-cp", classPath, "-d", folder.toString(), file.toString());
        CHECK.due("compiling the examples", code, 0);
        if (code != 0) {
            return;
        }
        URL[] places = {folder.toUri().toURL()};
        try (URLClassLoader loader = new URLClassLoader(places, ReadmeTest.class.getClassLoader())) {
            for (Method m : loader.loadClass("ReadmeExamples").getDeclaredMethods()) {
                m.invoke(null);
            }
        }
    }

    private static void drop(Path folder) throws IOException {
        try (Stream<Path> all = Files.walk(folder)) {
            List<Path> deepestFirst = all.sorted(Comparator.reverseOrder()).toList();
            for (Path one : deepestFirst) {
                Files.delete(one);
            }
        }
    }

    private static void everyCallIsShown(String page) {
        for (Method m : DeadListPool.class.getDeclaredMethods()) {
            if (Modifier.isPublic(m.getModifiers())) {
                CHECK.isTrue(m.getName() + " has an example", page.contains("pool." + m.getName() + "("));
                CHECK.isTrue(m.getName() + " is among the calls", page.contains("`" + m.getName() + "`"));
            }
        }
    }
}
