import java.lang.reflect.Method;
import java.util.ArrayList;
import java.util.List;
import java.util.TreeSet;

/**
 * Any int as an argument, in gardens at their bounds: each call is made on a new object, its answer and all that it left
 * is held against PlainGarden. Calls that only read are asked one after the other.
 */
public final class AnyIntTests {
    private static final String[] GARDENS = {
        "",
        "beds 2|write ab|image 1",
        "beds 2|write *..|week|write rr",
        "beds 3|past 2 1|past 1 0|set 1 1|write a|week|write b?",
        "write *|week|set 1 1|past 0 5|write ??????",
        "write *......|week|write abcdef",
        "set 0 2|set 1 4|set 2 10|colour 5 3|write fabcde|image 0|image 1|beds 4|write cab",
        "seen 0 0|seen 1 1|seen 2 2|seen 3 3|seen 4 4|seen 5 5|write ????......",
        "seen 47 5|seen 0 5|seen 0 5|seen 0 5|seen 0 5|write ?????",
        "past 1 0|past 2 1|past 3 2|past 4 3|past 5 4|write abc|week|write ................................................",
        "colour 0 1|colour 1 2|colour 2 3|set 0 1|set 2 0|write cab|week|write ?p?r",
        "beds 5|write ***********************************************|say 33|image 0",
    };
    private static final String READING = " fault judge row bloomed filled orders pattern fewest chance turns told ";
    private static final int CALLS_OF_ONE = 400;

    private static int calls = 0;
    private static int wrong = 0;

    public static void main(String[] args) throws ReflectiveOperationException {
        for (String garden : GARDENS) {
            for (Method method : LastWatered.class.getDeclaredMethods()) {
                if (java.lang.reflect.Modifier.isPublic(method.getModifiers())) askAll(garden, method);
            }
        }
        System.out.println(calls + " calls with any int, wrong: " + wrong);
        if (wrong > 0) System.exit(1);
    }

    private static void askAll(String garden, Method method) throws ReflectiveOperationException {
        boolean isReading = READING.contains(" " + method.getName() + " ");
        Object x = null;
        Object plain = null;
        int asked = 0;
        for (int[] numbers : arguments(method.getParameterCount())) {
            if (x == null || !isReading || asked % CALLS_OF_ONE == 0) x = made(new LastWatered(), garden);
            if (plain == null || !isReading) plain = made(new PlainGarden(), garden);
            asked++;
            ask(garden, method.getName(), numbers, x, plain);
            if (!isReading) due(garden, method.getName(), numbers, left(x), left(plain));
        }
        if (isReading) due(garden, method.getName(), new int[0], left(x), left(plain));
    }

    private static void ask(String garden, String name, int[] numbers, Object x, Object plain)
            throws ReflectiveOperationException {
        calls++;
        due(garden, name, numbers, call(x, name, numbers).toString(), call(plain, name, numbers).toString());
    }

    private static void due(String garden, String name, int[] numbers, String got, String want) {
        if (got.equals(want)) return;
        wrong++;
        if (wrong > 20) return;
        System.out.println("in the garden '" + garden + "' " + name + java.util.Arrays.toString(numbers) + ": " + got
                + ", due is " + want);
    }

    /** The ints at and beyond all bounds of the document, and those that look like them when bits are lost. */
    private static int[] ints(int least, int greatest) {
        TreeSet<Integer> all = new TreeSet<>();
        for (int i = least; i <= greatest; i++) all.add(i);
        for (int i : new int[] {29, 30, 31, 32, 33, 34, 46, 47, 48, 49, 64, 65, 97, 126, 127, 128, 256, 257, 353, 65536, 65537, 65633}) {
            all.add(i);
            all.add(-i);
            all.add(Integer.MIN_VALUE + i);
            all.add(Integer.MAX_VALUE - i);
        }
        for (int i = 0; i <= 3; i++) {
            all.add(Integer.MIN_VALUE + i);
            all.add(Integer.MAX_VALUE - i);
        }
        return all.stream().mapToInt(i -> i).toArray();
    }

    private static List<int[]> arguments(int number) {
        List<int[]> all = new ArrayList<>();
        if (number == 0) all.add(new int[0]);
        if (number == 1) for (int i : ints(-70, 140)) all.add(new int[] {i});
        if (number == 2) {
            int[] both = ints(-3, 12);
            for (int i : both) for (int j : new int[] {-2, -1, 0, 1, 2, 5, 6, 30}) all.add(new int[] {i, j});
            for (int i : new int[] {-1, 0, 1, 2, 5, 6, 30, 47}) for (int j : both) all.add(new int[] {i, j});
        }
        return all;
    }

    private static Object call(Object x, String name, int... numbers) throws ReflectiveOperationException {
        Class<?>[] types = new Class<?>[numbers.length];
        Object[] values = new Object[numbers.length];
        for (int i = 0; i < numbers.length; i++) {
            types[i] = int.class;
            values[i] = numbers[i];
        }
        return x.getClass().getDeclaredMethod(name, types).invoke(x, values);
    }

    private static Object made(Object x, String garden) throws ReflectiveOperationException {
        for (String step : garden.isEmpty() ? new String[0] : garden.split("\\|")) {
            String[] words = step.split(" ");
            if (words[0].equals("write")) {
                call(x, "wipe");
                for (char c : words[1].toCharArray()) call(x, "say", c);
                continue;
            }
            int[] numbers = new int[words.length - 1];
            for (int i = 0; i < numbers.length; i++) numbers[i] = Integer.parseInt(words[i + 1]);
            call(x, words[0], numbers);
        }
        return x;
    }

    private static String left(Object x) throws ReflectiveOperationException {
        StringBuilder text = new StringBuilder();
        for (int what = 0; what <= 25; what++) text.append(call(x, "told", what)).append(' ');
        for (int i = -1; i <= 5; i++) text.append(call(x, "row", i)).append(' ').append(call(x, "bloomed", i)).append(' ');
        for (int how = 0; how <= 2; how++) text.append(call(x, "fault", how)).append(' ');
        for (int n = 0; n <= 1; n++) {
            text.append(call(x, "restore", n)).append(' ');
            for (int what = 1; what <= 25; what++) text.append(call(x, "told", what)).append(' ');
            for (int i = -1; i <= 5; i++) text.append(call(x, "row", i)).append(' ');
        }
        return text.toString();
    }
}
