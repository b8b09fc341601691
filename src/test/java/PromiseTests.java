/** For each promise of the document: ordinary calls, the edges that it names, and wrong inputs. */
public final class PromiseTests {
    private static final int NONE = -6, UNKNOWN = -1, OUTSIDE = -2, STATE = -3, FULL = -4, NO = -5;
    private static final long LOST = -1000000000000000000L;
    private static final int LEAST = Integer.MIN_VALUE, GREATEST = Integer.MAX_VALUE;

    private static int checks = 0;
    private static int wrong = 0;
    private static int promise = 0;

    private static void due(String call, long got, long want) {
        checks++;
        if (got != want) {
            wrong++;
            System.out.println("promise " + promise + ": " + call + " answered " + got + ", due is " + want);
        }
    }

    private static void due(String call, String got, String want) {
        checks++;
        if (!got.equals(want)) {
            wrong++;
            System.out.println("promise " + promise + ": " + call + " answered " + got + ", due is " + want);
        }
    }

    private static Tended after(String text) {
        Tended x = new Tended();
        if (x.done(text) < 0) due("the week " + text, x.judge(0), NONE);
        return x;
    }

    /** All that a caller can see, but for what is on the pad. */
    private static String all(Tended x) {
        StringBuilder text = new StringBuilder(x.standing());
        for (int what = 1; what <= 25; what++) text.append(' ').append(x.told(what));
        return text.toString();
    }

    public static void main(String[] args) {
        gardens();
        pads();
        weeks();
        fillings();
        orders();
        wishes();
        chances();
        gardeners();
        images();
        System.out.println(checks + " checks of promises, wrong: " + wrong);
        if (wrong > 0) System.exit(1);
    }

    private static void gardens() {
        promise = 1;
        Tended x = new Tended();
        due("all of a new object", all(x), "| 6 0 6 3 0 -2 -2 -2 -2 0 0 0 0 0 0 -2 -2 -2 -2 -6 -6 -6 -6 -6 -6");
        due("told(0)", x.told(0), 0);
        due("restore(0)", x.restore(0), STATE);
        due("restore(1)", x.restore(1), STATE);

        promise = 2;
        due("beds(1)", x.beds(1), OUTSIDE);
        due("beds(7)", x.beds(7), OUTSIDE);
        due("beds(least)", x.beds(LEAST), OUTSIDE);
        due("beds(2)", x.beds(2), 6);
        due("beds(5)", x.beds(5), 2);
        x.colour(4, 3);
        x.past(3, 4);
        x.seen(0, 4);
        x.set(0, 2);
        x.set(1, 4);
        x.set(2, 9);
        x.done("ab.");
        x.write("xyz");
        due("beds(5) again", x.beds(5), 5);
        due("all but law, gate, wet is as at first", all(x),
                "| 5 2 4 9 0 -2 -2 -2 -2 0 0 0 0 0 -2 -2 -2 -2 -2 -6 -6 -6 -6 -6 -2");
        due("the pad stays", x.told(0), 3);
        x.beds(6);
        due("beds that went come anew", x.told(14), 0);

        promise = 3;
        due("colour(0, 3)", x.colour(0, 3), 0);
        due("colour(0, 1)", x.colour(0, 1), 3);
        due("colour(5, 2)", x.colour(5, 2), 0);
        due("colour(6, 0)", x.colour(6, 0), UNKNOWN);
        due("colour(-1, 0)", x.colour(-1, 0), UNKNOWN);
        due("colour(6, 4)", x.colour(6, 4), UNKNOWN);
        due("colour(0, 4)", x.colour(0, 4), OUTSIDE);
        due("colour(0, -1)", x.colour(0, -1), OUTSIDE);
        due("told(10)", x.told(10), 1);

        pasts();
        settings();
    }

    private static void pasts() {
        promise = 4;
        Tended x = new Tended();
        due("past(1, 0)", x.past(1, 0), NONE);
        due("past(2, 1)", x.past(2, 1), NONE);
        due("past(3, 2)", x.past(3, 2), NONE);
        due("past(0, 1): b is reached past a", x.past(0, 1), STATE);
        due("past(0, 3): d is reached past a, past others", x.past(0, 3), STATE);
        due("past(3, 0)", x.past(3, 0), 2);
        due("past(3, 0) again", x.past(3, 0), 0);
        due("past(1, -1)", x.past(1, -1), 0);
        due("past(1, -1) again", x.past(1, -1), NONE);
        due("past(0, 2): c is not reached past a any more", x.past(0, 2), NONE);
        due("past(1, 3): d is reached past a, c, b", x.past(1, 3), STATE);
        due("past(6, 0)", x.past(6, 0), UNKNOWN);
        due("past(0, 6)", x.past(0, 6), UNKNOWN);
        due("past(-1, 0)", x.past(-1, 0), UNKNOWN);
        due("past(0, -2)", x.past(0, -2), UNKNOWN);
        due("past(4, 4)", x.past(4, 4), UNKNOWN);
        due("past(-1, -1)", x.past(-1, -1), UNKNOWN);
        due("told(20)", x.told(20), 2);
    }

    private static void settings() {
        promise = 5;
        Tended x = new Tended();
        due("set(0, 2)", x.set(0, 2), 0);
        due("set(0, 1)", x.set(0, 1), 2);
        due("set(1, 1)", x.set(1, 1), 6);
        due("set(1, 6)", x.set(1, 6), 1);
        due("set(2, 0)", x.set(2, 0), 3);
        due("set(2, 10)", x.set(2, 10), 0);
        int[][] outside = {{-1, 0}, {3, 0}, {0, -1}, {0, 3}, {1, 0}, {1, 7}, {2, -1}, {2, 11}, {LEAST, 1}, {1, LEAST}};
        for (int[] call : outside) due("set(" + call[0] + ", " + call[1] + ")", x.set(call[0], call[1]), OUTSIDE);
        due("told(2)", x.told(2), 1);
        due("told(3)", x.told(3), 6);
        due("told(4)", x.told(4), 10);
    }

    private static void pads() {
        promise = 6;
        Tended x = new Tended();
        due("say(32)", x.say(32), OUTSIDE);
        due("say(127)", x.say(127), OUTSIDE);
        due("say(-1)", x.say(-1), OUTSIDE);
        due("say(33)", x.say(33), 1);
        due("say(126)", x.say(126), 2);
        for (int i = 3; i <= 48; i++) due("say no " + i, x.say('a'), i);
        due("say no 49", x.say('a'), FULL);
        due("say(32) on a full pad", x.say(32), OUTSIDE);

        promise = 7;
        due("wipe()", x.wipe(), 48);
        due("wipe() again", x.wipe(), 0);
        due("told(0)", x.told(0), 0);
        due("say after wipe", x.say('a'), 1);

        promise = 8;
        String[][] faults = {
            // text, beds, as a week, as an order, as a wish
            {"", "6", "-6", "0", "0"},
            {"abc", "6", "-6", "3", "0"},
            {"abcdef", "6", "-6", "-6", "0"},
            {"abcdefa", "6", "-6", "6", "0"},
            {"abca", "6", "-6", "3", "0"},
            {"abg", "6", "2", "2", "0"},
            {"ba", "2", "-6", "-6", "0"},
            {"bc", "2", "1", "1", "0"},
            {"*.?", "3", "-6", "0", "0"},
            {"????", "6", "-6", "0", "-6"},
            {"a?b?c?d?e?", "6", "9", "1", "0"},
            {"rwyp?r", "6", "0", "0", "-6"},
            {"rwyp?rr", "6", "0", "0", "6"},
            {"rr", "2", "0", "0", "-6"},
            {"rrr", "2", "0", "0", "2"},
            {"r.", "2", "0", "0", "1"},
            {"A", "6", "0", "0", "0"},
        };
        for (String[] f : faults) {
            x.beds(Integer.parseInt(f[1]));
            x.write(f[0]);
            for (int how = 0; how < 3; how++) {
                due("fault(" + how + ") of " + f[0], x.fault(how), Integer.parseInt(f[2 + how]));
            }
        }
        due("fault(3)", x.fault(3), OUTSIDE);
        due("fault(-1)", x.fault(-1), OUTSIDE);
    }

    private static void judged(Tended x, String text, int place, int why) {
        x.write(text);
        due("judge(0) of " + text, x.judge(0), place);
        due("judge(1) of " + text, x.judge(1), why);
    }

    private static void weeks() {
        promise = 9;
        Tended x = new Tended();
        judged(x, "", NONE, NONE);
        judged(x, "abc...", NONE, NONE);
        judged(x, "*.f", 2, 1);
        judged(x, "ab...", 4, 4);
        judged(x, ".", 0, 4);
        judged(x, "*......*", NONE, NONE);
        judged(x, "*......*.", 8, 4);
        judged(x, "ab?", STATE, STATE);
        judged(x, "?g", NO, NO);
        due("judge(2)", x.judge(2), OUTSIDE);
        due("judge(-1)", x.judge(-1), OUTSIDE);
        x.set(1, 2);
        x.past(2, 1);
        judged(x, "abc", 2, 2);
        judged(x, "aba", NONE, NONE);
        judged(x, "ac", 1, 3);
        judged(x, "adc", 2, 2);
        judged(x, "b.cc", NONE, NONE);
        judged(x, "*c.c", 3, 1);
        judged(x, "*abcdef", NONE, NONE);
        due("judging changes nothing", x.rowText() + x.bloomedText(), "");
        x.done("ab");
        x.past(1, 3);
        judged(x, "b", 0, 3);
        judged(x, "a", NONE, NONE);
        x.set(1, 1);
        judged(x, "c", 0, 2);
        x.anew();

        promise = 10;
        x = new Tended();
        due("week() of none", x.week(), 0);
        due("week() of abc..", x.done("abc.."), 2);
        due("the pad is empty then", x.told(0), 0);
        due("week() of c", x.done("c"), NO);
        due("the pad stays when refused", x.told(0), 1);
        due("week() of dd.", x.done("dd."), 1);
        due("week() of ?", x.done("?"), STATE);
        due("week() of c?", x.done("c?"), STATE);
        due("week() of ?g", x.done("?g"), NO);
        due("what bloomed", x.bloomedText(), "cbd");
        due("the row", x.rowText(), "a");
        laws();
        lists();
    }

    private static void lawDone(int law, String text, String bloomed, String row) {
        Tended x = new Tended();
        x.set(0, law);
        x.done(text);
        due("what bloomed by law " + law + " in " + text, x.bloomedText(), bloomed);
        due("the row by law " + law + " after " + text, x.rowText(), row);
    }

    private static void laws() {
        lawDone(0, "abcde..", "ed", "abc");
        lawDone(1, "abcde..", "ab", "cde");
        lawDone(2, "abcde..", "cb", "ade");
        lawDone(2, "abcde.....", "cbade", "");
        lawDone(2, "ab.", "a", "b");
        lawDone(1, "abcab.", "c", "ab");
        lawDone(0, "cab*.", "f", "abcde");
        lawDone(0, "cba.*", "a", "bcdef");
        lawDone(0, "abab", "", "ab");
    }

    private static void lists() {
        Tended x = after("abc.");
        promise = 11;
        due("row(-1)", x.row(-1), 2);
        due("row(0)", x.row(0), 0);
        due("row(1)", x.row(1), 1);
        due("row(2)", x.row(2), NONE);
        due("row(-2)", x.row(-2), NONE);
        due("row(greatest)", x.row(GREATEST), NONE);
        due("row(least)", x.row(LEAST), NONE);
        promise = 12;
        due("bloomed(-1)", x.bloomed(-1), 1);
        due("bloomed(0)", x.bloomed(0), 2);
        due("bloomed(1)", x.bloomed(1), NONE);
        due("bloomed(-2)", x.bloomed(-2), NONE);
        due("bloomed(greatest)", x.bloomed(GREATEST), NONE);
        x.done("*.....");
        due("all have bloomed", x.bloomedText(), "cfedba");
        due("bloomed(6)", x.bloomed(6), NONE);
        promise = 13;
        x.seen(1, 1);
        x.colour(1, 1);
        x.write("ab");
        due("anew()", x.anew(), 6);
        due("anew() again", x.anew(), 0);
        due("nothing is left", x.rowText() + x.bloomedText(), "");
        due("sights stay", x.told(5), 1);
        due("colours stay", x.told(11), 1);
        due("the pad stays", x.told(0), 2);
        due("beds can be watered again", x.judge(0), NONE);
    }

    private static void waysOf(Tended x, String text, int ways, String first) {
        x.write(text);
        due("filled(-1) of " + text, x.filled(-1), ways);
        StringBuilder got = new StringBuilder();
        for (int i = 0; x.filled(i) >= 0; i++) got.append((char) ('a' + x.filled(i)));
        due("the first way of " + text, got.toString(), first);
    }

    private static void fillings() {
        promise = 14;
        Tended x = new Tended();
        due("seen(0, 6)", x.seen(0, 6), UNKNOWN);
        due("seen(48, 6)", x.seen(48, 6), UNKNOWN);
        due("seen(0, -1)", x.seen(0, -1), UNKNOWN);
        due("seen(48, 0)", x.seen(48, 0), OUTSIDE);
        due("seen(-1, 0)", x.seen(-1, 0), OUTSIDE);
        for (int i = 1; i <= 6; i++) due("seen no " + i, x.seen(47, 0), i);
        due("seen no 7", x.seen(0, 0), FULL);
        due("seen(48, 0) when full", x.seen(48, 0), OUTSIDE);
        promise = 15;
        due("forget()", x.forget(), 6);
        due("forget() again", x.forget(), 0);
        due("told(5)", x.told(5), 0);
        due("seen after forget", x.seen(0, 0), 1);
        x.forget();

        promise = 16;
        waysOf(x, "", 1, "");
        waysOf(x, "ab.", 1, "");
        waysOf(x, ".", 0, "");
        waysOf(x, "?", 6, "a");
        waysOf(x, "????", 1296, "aaaa");
        waysOf(x, "?.?.?.?.", 360, "abcd");
        waysOf(x, "*.?", 5, "a");
        waysOf(x, "*......?", 0, "");
        x.write("?g");
        due("filled(-1) of a fault", x.filled(-1), NO);
        due("filled(9) of a fault", x.filled(9), NO);
        x.seen(1, 2);
        waysOf(x, "??..", 5, "ca");
        waysOf(x, "?.", 0, "");
        x.seen(0, 1);
        waysOf(x, "??..", 1, "cb");
        x.seen(0, 3);
        waysOf(x, "??..", 0, "");
        x.forget();
        x.past(1, 0);
        x.set(1, 1);
        waysOf(x, "??", 5, "aa");
        waysOf(x, "?.?", 21, "ab");
        x.done("a.");
        x.seen(0, 1);
        waysOf(x, "?.", 1, "b");
        due("filled(-2)", x.filled(-2), NONE);
        due("filled(1)", x.filled(1), NONE);
        due("filled(greatest)", x.filled(GREATEST), NONE);
        staleFillings();
    }

    /** Each call that changes something is seen by the next search. */
    private static void staleFillings() {
        Tended x = new Tended();
        x.write("??");
        due("filled(-1)", x.filled(-1), 36);
        x.wipe();
        due("filled(-1) after wipe", x.filled(-1), 1);
        x.say('.');
        due("filled(-1) after say", x.filled(-1), 0);
        x.write("a?.");
        due("filled(-1) of a?.", x.filled(-1), 6);
        x.seen(0, 3);
        due("filled(-1) after seen", x.filled(-1), 1);
        due("filled(0) after seen", x.filled(0), 3);
        x.image(0);
        x.forget();
        due("filled(-1) after forget", x.filled(-1), 6);
        x.restore(0);
        due("filled(-1) after restore", x.filled(-1), 1);
        x.forget();
        x.past(3, 5);
        due("filled(-1) after past", x.filled(-1), 5);
        x.set(1, 1);
        due("filled(-1) after set", x.filled(-1), 1);
        x.beds(3);
        x.set(1, 6);
        due("filled(-1) after beds", x.filled(-1), 3);
        x.write("ab.");
        due("filled(-1) without ?", x.filled(-1), 1);
        x.seen(0, 1);
        due("filled(-1) as seen", x.filled(-1), 1);
        x.week();
        due("filled(-1) after week", x.filled(-1), 0);
        x.forget();
        x.write("b");
        due("filled(-1) of b", x.filled(-1), 0);
        x.anew();
        due("filled(-1) after anew", x.filled(-1), 1);
    }

    private static void orderIs(Tended x, String text, int canBe, String pattern, int behind) {
        x.write(text);
        promise = 17;
        due("canBe() of " + text, x.canBe(), canBe);
        promise = 19;
        StringBuilder got = new StringBuilder();
        for (int i = 0; i < 3; i++) got.append(x.pattern(i)).append(' ');
        due("pattern of " + text, got.toString(), pattern);
        promise = 20;
        due("behind() of " + text, x.behind(), behind);
    }

    private static void orders() {
        Tended x = new Tended();
        String none = "-6 -6 -6 ";
        String no = "-5 -5 -5 ";
        orderIs(x, "abcdef", 1, none, 1);
        orderIs(x, "fedcba", 1, none, 1);
        orderIs(x, "fabcde", 0, "0 1 2 ", 2);
        orderIs(x, "cfbead", 0, "1 2 3 ", 2);
        orderIs(x, "dcabef", 0, "0 2 3 ", 2);
        orderIs(x, "abcfde", 0, "3 4 5 ", 2);
        orderIs(x, "abcde", NO, no, NO);
        orderIs(x, "abcdeff", NO, no, NO);
        orderIs(x, "", NO, no, NO);
        due("pattern(3) of none", x.pattern(3), OUTSIDE);
        due("pattern(-1) of none", x.pattern(-1), OUTSIDE);
        x.set(1, 3);
        orderIs(x, "cbafed", 1, none, 1);
        orderIs(x, "dcbaef", 0, none, 1);
        x.set(0, 1);
        orderIs(x, "abcdef", 1, none, 1);
        orderIs(x, "abcdfe", 0, none, 1);
        x.set(0, 2);
        orderIs(x, "acbdef", 0, none, 1);
        orderIs(x, "abcdef", 1, none, 1);
        x.set(1, 4);
        orderIs(x, "bacdef", 1, none, 1);
        orderIs(x, "cabdef", 0, "0 1 2 ", 2);
        x.set(1, 6);
        orderIs(x, "dcbaef", 1, none, 1);
        x.past(0, 5);
        x.done("f.");
        orderIs(x, "dcbaef", 1, none, 1);
        numbersOfOrders(x);
        allOrdersOfFive();
        allOrdersOfSix();
    }

    private static void numbersOfOrders(Tended x) {
        promise = 18;
        long[][] numbers = {
            {1, 1, 1}, {1, 30, 1}, {2, 1, 1}, {2, 2, 2}, {3, 3, 5}, {4, 3, 13}, {5, 5, 42}, {6, 6, 132}, {6, 2, 32},
            {30, 1, 1}, {30, 2, 536870912L}, {30, 29, 3814986502092303L}, {30, 30, 3814986502092304L}, {29, 30, 1002242216651368L},
        };
        for (long[] row : numbers) {
            due("orders(" + row[0] + ", " + row[1] + ")", x.orders((int) row[0], (int) row[1]), row[2]);
        }
        int[][] outside = {{0, 1}, {31, 1}, {1, 0}, {1, 31}, {-1, -1}, {LEAST, GREATEST}};
        for (int[] call : outside) {
            due("orders(" + call[0] + ", " + call[1] + ")", x.orders(call[0], call[1]), OUTSIDE);
        }
    }

    /** By law 0 an order can be had just if it has no pattern, and orders() counts those that can. */
    private static void allOrdersOfFive() {
        promise = 17;
        for (int gate = 1; gate <= 6; gate++) {
            int had = 0;
            for (String order : Edges.allOrders(5)) {
                Tended x = Edges.ofBeds(5).write(order);
                x.set(1, gate);
                had += x.canBe();
                if (gate == 6) due("pattern or not: " + order, x.pattern(0) == NONE ? 1 : 0, x.canBe());
                if (gate == 6) due("behind: " + order, x.behind(), x.canBe() == 1 ? 1 : 2);
            }
            due("orders had by gate " + gate, had, new Tended().orders(5, gate));
        }
    }

    /** All 720 orders of six beds, each against gardens in a line that are really filled and emptied. */
    private static void allOrdersOfSix() {
        promise = 20;
        PlainGarden plain = new PlainGarden();
        int[] answers = new int[4];
        for (String order : Edges.allOrders(6)) {
            plain.wipe();
            for (char c : order.toCharArray()) plain.say(c);
            int want = plain.behind();
            due("behind: " + order, new Tended().write(order).behind(), want);
            answers[want == NONE ? 0 : want]++;
        }
        due("orders of six by one garden", answers[1], 132);
        due("orders of six by two gardens", answers[2], 588);
        due("orders of six by three gardens", answers[3], 0);
        due("orders of six not by three", answers[0], 0);
    }

    private static void wished(Tended x, String wish, int fewest, String week) {
        x.write(wish);
        due("fewest(-1) of " + wish, x.fewest(-1), fewest);
        StringBuilder got = new StringBuilder();
        for (int i = 0; x.fewest(i) >= 0; i++) got.append((char) x.fewest(i));
        due("the first week for " + wish, got.toString(), week);
    }

    private static void wishes() {
        promise = 21;
        Tended x = Edges.coloured("rwypyw");
        wished(x, "r", 1, "a.");
        wished(x, "?", 1, "a.");
        wished(x, "??", 1, "*..");
        wished(x, "wyp", 1, "*...");
        wished(x, "rwypyw", 2, "a.*.....");
        wished(x, "rr", NONE, "");
        wished(x, "www", NONE, "");
        wished(x, "", NO, "");
        wished(x, "rwypywr", NO, "");
        wished(x, "a", NO, "");
        x.write("r");
        due("fewest(-2)", x.fewest(-2), NONE);
        due("fewest(2)", x.fewest(2), NONE);
        due("fewest(greatest)", x.fewest(GREATEST), NONE);
        x.done("ab.");
        wished(x, "r", 0, ".");
        wished(x, "?w", 1, ".f.");
        wished(x, "?w?", 1, ".*..");
        wished(x, "ww", NONE, "");
        x.set(0, 1);
        wished(x, "wr", 2, "fa..");
        due("searching changes nothing", x.standing(), "a|b");
        x.done("*.....");
        wished(x, "?", NONE, "");

        x = Edges.coloured("rwy");
        x.past(0, 1);
        wished(x, "r", 2, "ba.");
        x.set(1, 1);
        wished(x, "r", 2, "*a.");
        wished(x, "rw", 3, "*a.b.");
        x = Edges.coloured("rwy");
        x.set(1, 1);
        x.done("a");
        wished(x, "w", 2, "*b.");
        x = Edges.coloured("rwyp");
        x.set(0, 2);
        wished(x, "w", 1, "b.");
        wished(x, "wryp", 1, "*....");
        staleWishes();
    }

    /** Each call that changes something is seen by the next search. */
    private static void staleWishes() {
        Tended x = Edges.coloured("rwy");
        wished(x, "r", 1, "a.");
        x.colour(0, 1);
        due("fewest(-1) after colour", x.fewest(-1), NONE);
        x.colour(2, 0);
        due("fewest(0) after colour", x.fewest(0), 'c');
        x.image(0);
        x.past(2, 1);
        due("fewest(-1) after past", x.fewest(-1), 1);
        due("fewest(0) after past", x.fewest(0), '*');
        x.say('w');
        due("fewest(2) after say", x.fewest(2), '.');
        x.set(0, 1);
        due("fewest(-1) after set", x.fewest(-1), 3);
        x.restore(0);
        due("fewest(-1) after restore", x.fewest(-1), 1);
        x.beds(2);
        due("fewest(-1) after beds", x.fewest(-1), NONE);
        x.done("ab");
        x.write("r");
        due("fewest(-1) after a week", x.fewest(-1), 0);
        x.anew();
        due("fewest(-1) after anew", x.fewest(-1), 1);
    }

    private static void chanceOf(Tended x, String wish, long upper, long lower) {
        x.write(wish);
        due("chance(0) of " + wish, x.chance(0), upper);
        due("chance(1) of " + wish, x.chance(1), lower);
    }

    private static void chances() {
        promise = 22;
        Tended x = Edges.coloured("rw");
        chanceOf(x, "?", 3, 10);
        chanceOf(x, "??", 3, 10);
        x.done("a");
        chanceOf(x, "?", 1, 1);
        chanceOf(x, "r", 7, 10);
        chanceOf(x, "rw", 21, 100);
        chanceOf(x, "wr", 3, 10);
        chanceOf(x, "y", 0, 1);
        x.set(2, 5);
        chanceOf(x, "??", 3, 4);
        x.set(2, 10);
        chanceOf(x, "wr", 1, 1);
        chanceOf(x, "r", 0, 1);
        x.set(2, 0);
        chanceOf(x, "r", 1, 1);
        chanceOf(x, "rw", 0, 1);
        chanceOf(x, "", LOST + NO, LOST + NO);
        chanceOf(x, "rrr", LOST + NO, LOST + NO);
        chanceOf(x, "a", LOST + NO, LOST + NO);
        due("chance(2)", x.chance(2), LOST + OUTSIDE);
        due("chance(-1)", x.chance(-1), LOST + OUTSIDE);
        x.done("*..");
        chanceOf(x, "?", 0, 1);
        x = new Tended();
        x.set(0, 1);
        for (int bed = 0; bed < 6; bed++) x.colour(bed, bed % 2);
        x.done("f");
        chanceOf(x, "wrwrwr", 7 * 3, 100);
        due("chances change nothing", x.standing(), "f|");
    }

    private static void gardeners() {
        promise = 23;
        Tended x = new Tended();
        due("turns(6)", x.turns(6), UNKNOWN);
        due("turns(-1)", x.turns(-1), UNKNOWN);
        due("turns(greatest)", x.turns(GREATEST), UNKNOWN);
        due("turns(5)", x.turns(5), 1);
        x.beds(3);
        due("turns(3)", x.turns(3), UNKNOWN);
        x.set(0, 1);
        x.done("bc");
        due("turns(0) by the first", x.turns(0), 3);
        due("turns(1) by the first", x.turns(1), 1);
        due("turns(2) by the first", x.turns(2), 1);
        x.done(".");
        due("turns(1), b has bloomed", x.turns(1), NONE);
        x.beds(3);
        x.set(0, 0);
        x.past(0, 1);
        due("turns(0), reached past b", x.turns(0), 3);
        x = new Tended();
        x.set(1, 1);
        x.done("b");
        x.past(1, 0);
        due("turns(1), none can be watered", x.turns(1), 1);
        due("turns(0), none can be watered", x.turns(0), 3);
        due("turns change nothing", x.standing(), "b|");
    }

    private static void images() {
        promise = 24;
        Tended x = new Tended();
        due("image(2)", x.image(2), OUTSIDE);
        due("image(-1)", x.image(-1), OUTSIDE);
        due("image(0)", x.image(0), 1);
        x.beds(4);
        x.colour(3, 2);
        x.past(2, 3);
        x.set(0, 2);
        x.set(1, 3);
        x.set(2, 8);
        x.seen(4, 1);
        x.done("dab.c");
        String before = all(x);
        due("image(1)", x.image(1), 1);
        x.write("xyz");

        promise = 25;
        due("restore(2)", x.restore(2), OUTSIDE);
        due("restore(-1)", x.restore(-1), OUTSIDE);
        due("restore(0)", x.restore(0), 1);
        due("all of the first image", all(x), all(new Tended()));
        due("the pad stays", x.told(0), 3);
        x.done("f.");
        x.colour(0, 1);
        x.seen(0, 0);
        due("restore(1)", x.restore(1), 1);
        due("all of the second image", all(x), before);
        x.write("?..");
        due("the sight is kept", x.filled(-1), 0);
        x.anew();
        x.restore(1);
        x.restore(1);
        due("an image can be restored again", all(x), before);
        x.image(0);
        x.beds(6);
        x.restore(0);
        due("an image can be kept anew", all(x), before);
        due("restore(1) of an object without", new Tended().restore(1), STATE);

        promise = 26;
        int[] outside = {-1, 6, 9, 14, 15, 16, 19, 24, 25, 26, LEAST, GREATEST};
        for (int what : outside) due("told(" + what + ")", x.told(what), OUTSIDE);
        int[][] told = {{0, 3}, {1, 4}, {2, 2}, {3, 3}, {4, 8}, {5, 1}, {10, 0}, {13, 2}, {20, NONE}, {22, 3}, {23, NONE}};
        for (int[] row : told) due("told(" + row[0] + ")", x.told(row[0]), row[1]);
    }
}
