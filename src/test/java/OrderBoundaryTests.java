/** The boundary cases of part 3, orders: promises 17 to 20 and what the Terms say of them. */
public final class OrderBoundaryTests extends Edges {
    private static final long CATALAN_30 = 3814986502092304L;

    public static void main(String[] args) {
        hadByGates();
        hadByOtherLaws();
        hadFromNothingWatered();
        canBeRefused();
        leastNumbers();
        greatestNumbers();
        numbersRefused();
        numbersOfTheirOwn();
        patternPlaces();
        patternNone();
        patternRefused();
        gardensBehind();
        behindByTwo();
        behindRefused();
        end("orders");
    }

    private static String turned(String text) {
        return new StringBuilder(text).reverse().toString();
    }

    private static Tended by(int n, int law, int gate) {
        Tended x = ofBeds(n);
        x.set(0, law);
        x.set(1, gate);
        return x;
    }

    private static void hadByGates() {
        sentence(17, "Whether the ORDER on the PAD can be had: 1, 0.");
        for (int n : BED_NUMBERS) {
            for (int gate = 1; gate <= 6; gate++) {
                for (int in = 1; in <= n; in++) {
                    String first = turned(letters(in)) + letters(n).substring(in);
                    String last = letters(n - in) + turned(letters(n).substring(n - in));
                    due("canBe() of " + first + ", gate " + gate, by(n, 0, gate).write(first).canBe(), in <= gate ? 1 : 0);
                    due("canBe() of " + last + ", gate " + gate, by(n, 0, gate).write(last).canBe(), in <= gate ? 1 : 0);
                }
            }
        }
        due("canBe() of cab", by(3, 0, 6).write("cab").canBe(), 0);
        due("canBe() of abcfde", by(6, 0, 6).write("abcfde").canBe(), 0);
    }

    private static void hadByOtherLaws() {
        sentence(TERMS, "ORDERS (of blooming) by THE LAW and THE GATE");
        for (int gate = 1; gate <= 6; gate++) {
            int first = 0;
            int threes = 0;
            for (String order : allOrders(5)) {
                first += by(5, 1, gate).write(order).canBe();
                threes += by(5, 2, gate).write(order).canBe();
            }
            due("orders had by the first, gate " + gate, first, 1);
            if (gate <= 3) due("orders had by threes, gate " + gate, threes, 1);
            due("the rising one by the first", by(5, 1, gate).write("abcde").canBe(), 1);
            due("the rising one by threes", by(5, 2, gate).write("abcde").canBe(), 1);
            due("bacdef by threes", by(6, 2, gate).write("bacdef").canBe(), gate >= 4 ? 1 : 0);
            due("cbadef by threes", by(6, 2, gate).write("cbadef").canBe(), gate >= 5 ? 1 : 0);
            due("dcbaef by threes", by(6, 2, gate).write("dcbaef").canBe(), gate >= 6 ? 1 : 0);
            for (int n : new int[] {2, 3}) {
                for (String order : allOrders(n)) {
                    due("by threes of no more than three", by(n, 2, gate).write(order).canBe(), order.equals(letters(n)) ? 1 : 0);
                }
            }
            due("bacd by threes, four beds", by(4, 2, gate).write("bacd").canBe(), gate >= 4 ? 1 : 0);
            due("cbad by threes, no fifth bed", by(4, 2, gate).write("cbad").canBe(), 0);
            due("edcbaf by threes", by(6, 2, gate).write("edcbaf").canBe(), 0);
        }
    }

    private static void hadFromNothingWatered() {
        sentence(TERMS, "from a garden of which nothing was watered, BEDS being watered by numbers, each once, without RAIN, "
                + "PAST not being asked");
        Tended x = new Tended();
        x.done("*......");
        for (int bed = 0; bed < 5; bed++) x.past(bed, bed + 1);
        due("all have bloomed: the rising one", x.write("abcdef").canBe(), 1);
        due("all have bloomed: the turned one", x.write("fedcba").canBe(), 1);
        due("all have bloomed: one with the pattern", x.write("fabcde").canBe(), 0);
        x.anew();
        x.done("*");
        x.set(1, 1);
        due("six in the row, gate 1: the rising one", x.write("abcdef").canBe(), 1);
        due("six in the row, gate 1: another", x.write("bacdef").canBe(), 0);
        due("nothing is done", x.standing(), "abcdef|");
    }

    private static void canBeRefused() {
        sentence(17, "NO: there is a FAULT (1).");
        for (int n : BED_NUMBERS) {
            String[] texts = {"", letters(n - 1), letters(n) + "a", letters(n - 1) + "a", letters(n - 1) + "?", "?",
                letters(n - 1) + (char) ('a' + n), "r", "a".repeat(48)};
            for (String text : texts) due("canBe() of " + text + ", beds " + n, ofBeds(n).write(text).canBe(), NO);
            due("canBe() of all", ofBeds(n).write(letters(n)).canBe(), 1);
        }
    }

    private static void leastNumbers() {
        sentence(TERMS, "How many can be had of m BEDS (1 to 30) by LAW 0 with a GATE of k (1 to 30).");
        Tended x = new Tended();
        for (int i = 1; i <= 30; i++) {
            due("orders(1, " + i + ")", x.orders(1, i), 1);
            due("orders(" + i + ", 1)", x.orders(i, 1), 1);
            due("orders(" + i + ", 2)", x.orders(i, 2), 1L << i - 1);
            due("orders(2, " + i + ")", x.orders(2, i), i == 1 ? 1 : 2);
        }
    }

    private static void greatestNumbers() {
        sentence(18, "How many ORDERS of m BEDS, by a GATE of k.");
        Tended x = new Tended();
        due("orders(30, 30)", x.orders(30, 30), CATALAN_30);
        due("orders(30, 29)", x.orders(30, 29), CATALAN_30 - 1);
        due("orders(30, 28): 57 just need a gate of 29", x.orders(30, 28), CATALAN_30 - 58);
        due("orders(29, 30)", x.orders(29, 30), 1002242216651368L);
        due("orders(29, 29)", x.orders(29, 29), 1002242216651368L);
        due("orders(29, 28)", x.orders(29, 28), 1002242216651367L);
        for (int m = 1; m <= 30; m++) due("a gate of more than " + m, x.orders(m, 30), x.orders(m, m));
        for (int m = 2; m <= 30; m++) due("a gate of one less than " + m, x.orders(m, m - 1), x.orders(m, m) - 1);
        due("orders(1, 1) after greater ones", x.orders(1, 1), 1);
    }

    private static void numbersRefused() {
        sentence(18, "OUTSIDE.");
        Tended x = new Tended();
        for (int good : new int[] {1, 6, 30}) {
            dueForEach("orders(m, " + good + ")", m -> x.orders(m, good), OUTSIDE, beyond(1, 30));
            dueForEach("orders(" + good + ", k)", k -> x.orders(good, k), OUTSIDE, beyond(1, 30));
        }
        dueForEach("orders, both", both -> x.orders(both, both), OUTSIDE, beyond(1, 30));
        due("orders(0, 31)", x.orders(0, 31), OUTSIDE);
        due("orders(31, 0)", x.orders(31, 0), OUTSIDE);
    }

    private static void numbersOfTheirOwn() {
        sentence(TERMS, "by LAW 0 with a GATE of k");
        Tended x = by(2, 1, 1);
        x.done("*..");
        x.write("!");
        due("orders(6, 6), whatever the garden is", x.orders(6, 6), 132);
        due("orders(4, 3), whatever the garden is", x.orders(4, 3), 13);
    }

    private static void patternIs(String order, int first, int second, int third) {
        Tended x = ofBeds(order.length()).write(order);
        due("pattern(0) of " + order, x.pattern(0), first);
        due("pattern(1) of " + order, x.pattern(1), second);
        due("pattern(2) of " + order, x.pattern(2), third);
    }

    private static void patternPlaces() {
        sentence(TERMS, "PATTERN: the first three places of an ORDER (by numbers of the places) at which a greater BED stands "
                + "ahead of two lesser ones that rise");
        patternIs("cab", 0, 1, 2);
        patternIs("fabcde", 0, 1, 2);
        patternIs("abcfde", 3, 4, 5);
        patternIs("cbafde", 3, 4, 5);
        patternIs("fedcab", 0, 4, 5);
        patternIs("ecabdf", 0, 1, 4);
        patternIs("facbed", 0, 1, 2);
        patternIs("dcbfea", NONE, NONE, NONE);
        patternIs("bcdeaf", NONE, NONE, NONE);
        patternIs("efdabc", 0, 3, 4);
    }

    private static void patternNone() {
        sentence(19, "PATTERN of the ORDER on the PAD: its i-th place (0 to 2); NONE: there is none.");
        patternIs("ab", NONE, NONE, NONE);
        patternIs("ba", NONE, NONE, NONE);
        for (String order : allOrders(3)) {
            if (!order.equals("cab")) patternIs(order, NONE, NONE, NONE);
        }
        for (int n : BED_NUMBERS) {
            patternIs(letters(n), NONE, NONE, NONE);
            patternIs(turned(letters(n)), NONE, NONE, NONE);
        }
    }

    private static void patternRefused() {
        sentence(19, "OUTSIDE; NO: there is a FAULT (1).");
        String[] texts = {"", "abcde", "abcdefa", "abcdea", "abcde?", "cab"};
        for (String text : texts) {
            Tended x = new Tended().write(text);
            for (int i = 0; i <= 2; i++) due("pattern(" + i + ") of " + text, x.pattern(i), NO);
            dueForEach("pattern of " + text, x::pattern, OUTSIDE, beyond(0, 2));
        }
        for (String text : new String[] {"abcdef", "fabcde"}) {
            Tended x = new Tended().write(text);
            dueForEach("pattern of " + text, x::pattern, OUTSIDE, beyond(0, 2));
        }
    }

    private static void gardensBehind() {
        sentence(TERMS, "each with LAW 0, no GATE: BEDS come in by numbers");
        for (int law = 0; law <= 2; law++) {
            for (int gate : new int[] {1, 6}) {
                for (int n : BED_NUMBERS) {
                    due("behind() of " + letters(n), by(n, law, gate).write(letters(n)).behind(), 1);
                    due("behind() of the turned one", by(n, law, gate).write(turned(letters(n))).behind(), 1);
                }
                due("behind() of fabcde", by(6, law, gate).write("fabcde").behind(), 2);
                due("behind() of cab", by(3, law, gate).write("cab").behind(), 2);
            }
        }
        Tended x = new Tended();
        x.past(0, 5);
        x.done("*......");
        due("behind() when all have bloomed", x.write("fabcde").behind(), 2);
        due("nothing is done", x.standing(), "|fedcba");
    }

    private static void behindByTwo() {
        sentence(TERMS, "the fewest gardens (1 to 3) by which the ORDER on the PAD comes out of the last one");
        for (int n : new int[] {2, 3, 4}) {
            for (String order : allOrders(n)) {
                Tended x = ofBeds(n).write(order);
                due("behind() of " + order, x.behind(), x.pattern(0) == NONE ? 1 : 2);
            }
        }
    }

    private static void behindRefused() {
        sentence(20, "NO: there is a FAULT (1).");
        for (int n : BED_NUMBERS) {
            String[] texts = {"", letters(n - 1), letters(n) + "a", letters(n - 1) + "a", letters(n - 1) + "?",
                letters(n - 1) + (char) ('a' + n), "a".repeat(48)};
            for (String text : texts) due("behind() of " + text + ", beds " + n, ofBeds(n).write(text).behind(), NO);
        }
    }
}
