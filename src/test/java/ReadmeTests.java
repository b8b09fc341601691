import java.io.ByteArrayOutputStream;
import java.io.IOException;
import java.io.PrintStream;
import java.lang.reflect.Method;
import java.net.URL;
import java.net.URLClassLoader;
import java.nio.file.Files;
import java.nio.file.Path;
import java.util.ArrayList;
import java.util.Arrays;
import java.util.List;
import java.util.TreeSet;
import java.util.regex.Matcher;
import java.util.regex.Pattern;
import java.util.stream.Stream;
import javax.tools.ToolProvider;

/** What README.md says holds: its example compiles and prints what stands behind its lines, its lists are whole. */
public final class ReadmeTests {
    private static final Pattern EXAMPLE = Pattern.compile("```java\n(.*?)```", Pattern.DOTALL);
    private static final Pattern PRINTED = Pattern.compile("System\\.out\\.println\\(.*// ([^:]+): ");

    private static int wrong = 0;

    private static void check(String what, boolean holds) {
        if (!holds) {
            wrong++;
            System.out.println("does not hold: " + what);
        }
    }

    public static void main(String[] args) throws IOException, ReflectiveOperationException {
        String readme = Files.readString(Path.of("README.md"));
        example(readme);
        calls(readme);
        tests(readme);
        System.out.println("README.md, wrong: " + wrong);
        if (wrong > 0) System.exit(1);
    }

    private static void example(String readme) throws IOException, ReflectiveOperationException {
        Matcher block = EXAMPLE.matcher(readme);
        check("README.md has an example", block.find());
        String source = block.group(1);
        List<String> want = saidBehind(source);
        check("the example prints something", !want.isEmpty());
        List<String> got = printed(source);
        check("as many are printed as are said: " + got, got.size() == want.size());
        for (int i = 0; i < Math.min(got.size(), want.size()); i++) {
            check("line " + i + " is " + want.get(i) + ", printed is " + got.get(i), got.get(i).equals(want.get(i)));
        }
    }

    private static List<String> saidBehind(String source) {
        List<String> said = new ArrayList<>();
        for (String line : source.split("\n")) {
            Matcher printed = PRINTED.matcher(line);
            if (printed.find()) said.add(printed.group(1));
            else check("what is printed is said: " + line, !line.contains("println"));
        }
        return said;
    }

    private static List<String> printed(String source) throws IOException, ReflectiveOperationException {
        Path room = Files.createTempDirectory("readme");
        Path file = room.resolve("Example.java");
        Files.writeString(file, source);
        String path = System.getProperty("java.class.path");
        int code = ToolProvider.getSystemJavaCompiler().run(null, null, null, "-Xlint:all", "-Werror", "-cp", path,
                "-d", room.toString(), file.toString());
        check("the example compiles", code == 0);
        List<String> lines = code == 0 ? run(room) : List.of();
        try (Stream<Path> made = Files.list(room)) {
            for (Path one : made.toList()) Files.delete(one);
        }
        Files.delete(room);
        return lines;
    }

    private static List<String> run(Path room) throws IOException, ReflectiveOperationException {
        PrintStream out = System.out;
        ByteArrayOutputStream caught = new ByteArrayOutputStream();
        try (URLClassLoader loader = new URLClassLoader(new URL[] {room.toUri().toURL()})) {
            Method main = loader.loadClass("Example").getMethod("main", String[].class);
            System.setOut(new PrintStream(caught, true));
            main.invoke(null, (Object) new String[0]);
        } finally {
            System.setOut(out);
        }
        return Arrays.asList(caught.toString().split("\\R"));
    }

    /** The table names each call of the face once. */
    private static void calls(String readme) {
        List<String> named = new ArrayList<>();
        for (String line : readme.split("\n")) {
            Matcher name = Pattern.compile("`(\\w+)`").matcher(line.startsWith("| ") ? line : "");
            while (name.find()) named.add(name.group(1));
        }
        TreeSet<String> face = new TreeSet<>();
        for (Method m : LastWatered.class.getMethods()) {
            if (m.getDeclaringClass() == LastWatered.class) face.add(m.getName());
        }
        check("the table has each call once: " + named, named.size() == face.size() && face.equals(new TreeSet<>(named)));
    }

    private static void tests(String readme) throws IOException {
        check(".ci/run can be run", Files.isExecutable(Path.of(".ci/run")) && readme.contains("`.ci/run`"));
        try (Stream<Path> files = Files.list(Path.of("src/test/java"))) {
            for (Path file : files.toList()) {
                String name = file.getFileName().toString().replace(".java", "");
                check("README.md names " + name, readme.contains("`" + name + "`"));
            }
        }
    }
}
