import java.util.ArrayList;
import java.util.List;
import java.util.TreeSet;
import java.util.function.IntToLongFunction;

/** What the boundary tests share: a sentence of the document is named, then its cases are asked. */
abstract class Edges {
    static final int NONE = -6, UNKNOWN = -1, OUTSIDE = -2, STATE = -3, FULL = -4, NO = -5;
    static final long LOST = -1000000000000000000L;
    static final int LEAST = Integer.MIN_VALUE, GREATEST = Integer.MAX_VALUE;
    static final int TERMS = 0;
    static final int[] BED_NUMBERS = {2, 3, 4, 5, 6};

    private static int sentences = 0;
    private static int checks = 0;
    private static int wrong = 0;
    private static int sinceSentence = 1;
    private static String where = "";

    /** The cases that follow are those of these words of a promise, or of the Terms. */
    static void sentence(int promise, String words) {
        noneWithoutCases();
        sentences++;
        sinceSentence = 0;
        where = (promise == TERMS ? "Terms" : "promise " + promise) + " '" + words + "'";
    }

    static void due(String what, String got, String want) {
        checks++;
        sinceSentence++;
        if (!got.equals(want)) {
            wrong++;
            System.out.println(where + ": " + what + " answered " + got + ", due is " + want);
        }
    }

    static void due(String what, long got, long want) {
        due(what, Long.toString(got), Long.toString(want));
    }

    /** The same answer is due for each of these numbers. */
    static void dueForEach(String call, IntToLongFunction asked, long want, int... numbers) {
        for (int number : numbers) due(call + " of " + number, asked.applyAsLong(number), want);
    }

    /** Numbers that are not from least to greatest: the next ones, the ends of int, and those that wrap around. */
    static int[] beyond(int least, int greatest) {
        TreeSet<Integer> numbers = new TreeSet<>();
        for (int bits : new int[] {5, 6, 8, 16, 31}) {
            numbers.add(least + (1 << bits));
            numbers.add(greatest + (1 << bits));
            numbers.add(least - (1 << bits));
        }
        numbers.add(least - 1);
        numbers.add(greatest + 1);
        numbers.add(LEAST);
        numbers.add(LEAST + 1);
        numbers.add(GREATEST - 1);
        numbers.add(GREATEST);
        return numbers.stream().mapToInt(i -> i).filter(i -> i < least || i > greatest).toArray();
    }

    static String letters(int n) {
        return "abcdef".substring(0, n);
    }

    static List<String> allOrders(int n) {
        List<String> all = new ArrayList<>();
        fill("", letters(n), all);
        return all;
    }

    private static void fill(String begun, String rest, List<String> all) {
        if (rest.isEmpty()) all.add(begun);
        for (int i = 0; i < rest.length(); i++) {
            fill(begun + rest.charAt(i), rest.substring(0, i) + rest.substring(i + 1), all);
        }
    }

    /** All texts of these signs, up to this length, the shorter ones first. */
    static List<String> texts(String signs, int length) {
        List<String> all = new ArrayList<>();
        all.add("");
        for (int from = 0, round = 0; round < length; round++) {
            int to = all.size();
            for (; from < to; from++) for (char c : signs.toCharArray()) all.add(all.get(from) + c);
        }
        return all;
    }

    /** A garden of as many beds as there are letters of colours. */
    static Tended coloured(String colours) {
        Tended x = new Tended();
        x.beds(colours.length());
        for (int bed = 0; bed < colours.length(); bed++) x.colour(bed, "rwyp".indexOf(colours.charAt(bed)));
        return x;
    }

    static Tended ofBeds(int n) {
        Tended x = new Tended();
        x.beds(n);
        return x;
    }

    static Tended lawful(int n, int law) {
        Tended x = ofBeds(n);
        x.set(0, law);
        return x;
    }

    static Tended after(String week) {
        Tended x = new Tended();
        if (x.done(week) < 0) due("the week " + week + " on a new object", x.judge(0), NONE);
        return x;
    }

    static void end(String name) {
        noneWithoutCases();
        System.out.println(name + ": " + sentences + " sentences, " + checks + " checks, wrong: " + wrong);
        if (wrong > 0) System.exit(1);
    }

    private static void noneWithoutCases() {
        if (sinceSentence == 0) throw new IllegalStateException("no case of " + where);
    }
}
