import java.io.IOException;
import java.lang.reflect.Field;
import java.lang.reflect.Method;
import java.lang.reflect.Modifier;
import java.nio.file.Files;
import java.nio.file.Path;
import java.util.Arrays;
import java.util.TreeSet;

/** The public face is the document's, and the source keeps to what LANGUAGE.md leaves. */
public final class FaceTests {
    private static final String[] FACE = {
        "int beds(int)", "int colour(int,int)", "int past(int,int)", "int set(int,int)", "int say(int)", "int wipe()",
        "int fault(int)", "int judge(int)", "int week()", "int row(int)", "int bloomed(int)", "int anew()",
        "int seen(int,int)", "int forget()", "int filled(int)", "int canBe()", "long orders(int,int)",
        "int pattern(int)", "int behind()", "int fewest(int)", "long chance(int)", "int turns(int)", "int image(int)",
        "int restore(int)", "int told(int)",
    };
    private static final String[] CONSTANTS = {"NONE", "UNKNOWN", "OUTSIDE", "STATE", "FULL", "NO", "LOST"};
    private static final String[] RULED_OUT = {
        "->", "::", "try {", "catch", "throw", "finally", "synchronized", "assert", "Exact(", "double", "float",
        "System.out", "static {", "protected", "java.io", "java.time", "Random", "Thread",
    };

    private static int wrong = 0;

    private static void check(String what, boolean holds) {
        if (!holds) {
            wrong++;
            System.out.println("does not hold: " + what);
        }
    }

    public static void main(String[] args) throws IOException {
        methods();
        constants();
        nested();
        source();
        System.out.println("the face, wrong: " + wrong);
        if (wrong > 0) System.exit(1);
    }

    private static void methods() {
        TreeSet<String> got = new TreeSet<>();
        TreeSet<String> names = new TreeSet<>();
        for (Method m : LastWatered.class.getDeclaredMethods()) {
            boolean isPublic = Modifier.isPublic(m.getModifiers());
            check(m + " is public or private", isPublic || Modifier.isPrivate(m.getModifiers()));
            if (!isPublic) continue;
            String types = Arrays.toString(m.getParameterTypes()).replace("[", "(").replace("]", ")").replace(" ", "");
            got.add(m.getReturnType() + " " + m.getName() + types);
            names.add(m.getName());
        }
        check("the public methods are " + got, got.equals(new TreeSet<>(Arrays.asList(FACE))));
        for (Class<?> inside : LastWatered.class.getDeclaredClasses()) {
            for (Method m : inside.getDeclaredMethods()) check(m + " has a name of its own", !names.contains(m.getName()));
        }
    }

    private static void constants() {
        TreeSet<String> got = new TreeSet<>();
        for (Field f : LastWatered.class.getDeclaredFields()) {
            if (Modifier.isPublic(f.getModifiers())) got.add(f.getName());
            else check(f + " is private", Modifier.isPrivate(f.getModifiers()));
            if (Modifier.isStatic(f.getModifiers())) check(f + " is final", Modifier.isFinal(f.getModifiers()));
        }
        check("the constants are " + got, got.equals(new TreeSet<>(Arrays.asList(CONSTANTS))));
        long[] values = {LastWatered.NONE, LastWatered.UNKNOWN, LastWatered.OUTSIDE, LastWatered.STATE,
            LastWatered.FULL, LastWatered.NO, LastWatered.LOST};
        check("their values", Arrays.equals(values, new long[] {-6, -1, -2, -3, -4, -5, -1000000000000000000L}));
        check("the class is public and final", Modifier.isPublic(LastWatered.class.getModifiers())
                && Modifier.isFinal(LastWatered.class.getModifiers()));
        check("one constructor", LastWatered.class.getDeclaredConstructors().length == 1);
    }

    private static void nested() {
        Class<?>[] inside = LastWatered.class.getDeclaredClasses();
        check("at most twelve classes", inside.length + 1 <= 12);
        for (Class<?> c : inside) {
            check(c + " is static", Modifier.isStatic(c.getModifiers()));
            check(c + " is not public", !Modifier.isPublic(c.getModifiers()));
            int fields = 0;
            for (Field f : c.getDeclaredFields()) {
                boolean isStatic = Modifier.isStatic(f.getModifiers());
                if (!isStatic) fields++;
                if (isStatic) check(f + " is a constant", Modifier.isFinal(f.getModifiers()) && f.getType() == int.class);
            }
            check(c + " has at most twenty fields", fields <= 20);
            for (Method m : c.getDeclaredMethods()) check(m + " takes at most seven", m.getParameterCount() <= 7);
        }
    }

    private static void source() throws IOException {
        Path file = Path.of("src/main/java/LastWatered.java");
        String text = Files.readString(file);
        for (String word : RULED_OUT) check("the source has no " + word, !text.contains(word));
        for (String line : text.split("\n")) {
            check("imports only Arrays: " + line, !line.startsWith("import") || line.equals("import java.util.Arrays;"));
        }
        check("signs 0 to 127 alone", text.chars().allMatch(c -> c < 128));
    }
}
