import java.math.BigInteger;
import java.util.ArrayList;
import java.util.HashMap;
import java.util.List;
import java.util.Map;
import java.util.TreeSet;

/** What is searched for (FILLED, ORDERS, BEHIND, FEWEST, CHANCES, TURNS), held against weeks that are really done. */
public final class SearchTests extends Edges {
    public static void main(String[] args) {
        fillingsByWeeks();
        ordersByWeeks();
        gardensBehind();
        fewestByWeeks();
        chancesByWeeks();
        turnsByWeeks();
        end("searches");
    }

    /** Each way of filling is written out, and its week is done. */
    private static void fillingsByWeeks() {
        sentence(TERMS, "so that all signs of the WEEK can be, and what BLOOMS in it is as it was SEEN");
        filledAsDone("??.?.", -1, -1);
        filledAsDone("??.?.", 0, 2);
        filledAsDone("?a.?.", 1, 0);
        filledAsDone("*.??..", 1, 3);
        sentence(TERMS, "How many; the first by letters.");
        filledAsDone("d?.?b?", -1, -1);
        filledAsDone("?.?.?.?.", -1, -1);
        filledAsDone("?.?.?.?.", 3, 0);
        filledAsDone("*....?", -1, -1);
        sentence(16, "FILLED: how many ways (i = -1), the BED of the i-th ? in the first; NONE.");
        filledAsDone("???", -1, -1);
        filledAsDone("ab..", 1, 0);
        filledAsDone("ab..", 1, 1);
    }

    /** Four beds, b reached past d, a gate of two. */
    private static Tended narrow() {
        Tended x = ofBeds(4);
        x.past(1, 3);
        x.set(1, 2);
        return x;
    }

    private static void filledAsDone(String week, int morning, int bed) {
        List<String> ways = new ArrayList<>();
        List<String> fillings = new ArrayList<>();
        for (String letters : texts("abcd", 4)) {
            if (letters.length() != week.chars().filter(c -> c == '?').count()) continue;
            String told = week;
            for (char c : letters.toCharArray()) told = told.replaceFirst("\\?", String.valueOf(c));
            Tended x = narrow();
            if (x.done(told) == NO) continue;
            if (morning < 0 || x.bloomed(morning) == bed) ways.add(letters);
        }
        fillings.addAll(new TreeSet<>(ways));
        Tended x = narrow();
        if (morning >= 0) x.seen(morning, bed);
        x.write(week);
        due("filled(-1) of " + week + " seen " + morning + ", " + bed, x.filled(-1), ways.size());
        String first = fillings.isEmpty() ? "" : fillings.get(0);
        for (int i = 0; i < 5; i++) {
            due("filled(" + i + ") of " + week, x.filled(i), i < first.length() ? first.charAt(i) - 'a' : NONE);
        }
    }

    // ---- orders

    /** All orders that really bloom when beds come in by this row, whatever mornings are put in between. */
    private static TreeSet<String> bloomOrders(String in, int law, int gate) {
        TreeSet<String> all = new TreeSet<>();
        for (String mornings : texts("w.", 2 * in.length())) {
            if (mornings.length() != 2 * in.length()) continue;
            StringBuilder week = new StringBuilder();
            int watered = 0;
            for (char c : mornings.toCharArray()) {
                if (c == 'w' && watered < in.length()) week.append(in.charAt(watered));
                if (c == '.') week.append(c);
                if (c == 'w') watered++;
            }
            if (watered != in.length()) continue;
            Tended x = lawful(in.length(), law);
            x.set(1, gate);
            if (x.done(week.toString()) == in.length()) all.add(x.bloomedText());
        }
        return all;
    }

    private static void ordersByWeeks() {
        sentence(TERMS, "MORNINGS in between: whether the ORDER on the PAD can be had.");
        for (int n = 2; n <= 4; n++) {
            for (int law = 0; law <= 2; law++) {
                for (int gate = 1; gate <= n; gate++) {
                    TreeSet<String> had = bloomOrders(letters(n), law, gate);
                    for (String order : allOrders(n)) {
                        Tended x = lawful(n, law);
                        x.set(1, gate);
                        due("canBe() of " + order + " by law " + law + ", gate " + gate, x.write(order).canBe(),
                                had.contains(order) ? 1 : 0);
                    }
                    if (law == 0) due("orders(" + n + ", " + gate + ")", new Tended().orders(n, gate), had.size());
                }
            }
        }
    }

    /** What blooms in one garden is really watered in the next one. */
    private static void gardensBehind() {
        sentence(TERMS, "BEHIND: gardens one behind the other, each with LAW 0, no GATE: BEDS come in by numbers, what blooms in "
                + "one is watered in the next: the fewest gardens");
        for (int n = 2; n <= 4; n++) {
            TreeSet<String> first = bloomOrders(letters(n), 0, 6);
            TreeSet<String> second = new TreeSet<>();
            for (String order : first) second.addAll(bloomOrders(order, 0, 6));
            for (String order : allOrders(n)) {
                int want = first.contains(order) ? 1 : second.contains(order) ? 2 : 3;
                due("behind() of " + order, ofBeds(n).write(order).behind(), want);
            }
        }
        sentence(20, "BEHIND; NONE: not by three.");
        for (int n : BED_NUMBERS) {
            for (String order : allOrders(n)) {
                Tended x = ofBeds(n).write(order);
                due("behind() of " + order + ": two always make it", x.behind(), x.pattern(0) == NONE ? 1 : 2);
            }
        }
    }

    // ---- wishes

    private static void fewestByWeeks() {
        sentence(TERMS, "FEWEST: from what is now, WATERINGS and RAIN (each counts 1; MORNINGS nothing) by which COLOURS of those "
                + "that bloom next are as the WISH on the PAD: how many; the first such WEEK of these by signs");
        for (int law = 0; law <= 2; law++) {
            fewestAsDone("rwy", law, "", 6);
            fewestAsDone("rwr", law, "ca", 6);
            fewestAsDone("wry", law, "b", 1);
            fewestAsDone("wwr", law, "*.", 2);
        }
    }

    /** Three beds, a reached past b. */
    private static Tended short3(String colours, int law, String before, int gate) {
        Tended x = coloured(colours);
        x.set(0, law);
        x.done(before);
        x.past(0, 1);
        x.set(1, gate);
        return x;
    }

    /** Of all weeks of five signs at most the best one for each wish; a wish for which there is none needs more. */
    private static void fewestAsDone(String colours, int law, String before, int gate) {
        Map<String, String> best = new HashMap<>();
        for (String week : texts(".abc*", 5)) {
            if (!week.endsWith(".")) continue;
            Tended x = short3(colours, law, before, gate);
            int had = x.bloomed(-1);
            if (x.done(week) < 0) continue;
            StringBuilder came = new StringBuilder();
            for (int bed : bedsFrom(x, had)) came.append(colours.charAt(bed));
            for (String wish : texts("rwy?", 3)) {
                if (isLike(came.toString(), wish)) best.merge(wish, week, SearchTests::better);
            }
        }
        for (String wish : texts("rwy?", 3)) {
            if (wish.isEmpty()) continue;
            String what = " of " + wish + " by law " + law + ", gate " + gate + ", after " + before;
            Tended x = short3(colours, law, before, gate).write(wish);
            String week = best.get(wish);
            int number = x.fewest(-1);
            if (week == null) {
                due("fewest(-1)" + what + " is none or more", number == NONE || number + wish.length() > 5 ? 1 : 0, 1);
                continue;
            }
            due("fewest(-1)" + what, number, waterings(week));
            for (int i = 0; i < week.length(); i++) due("fewest(" + i + ")" + what, x.fewest(i), week.charAt(i));
            due("fewest behind the last" + what, x.fewest(week.length()), NONE);
        }
    }

    private static List<Integer> bedsFrom(Tended x, int first) {
        List<Integer> beds = new ArrayList<>();
        for (int i = first; x.bloomed(i) != NONE; i++) beds.add(x.bloomed(i));
        return beds;
    }

    private static boolean isLike(String came, String wish) {
        if (came.length() != wish.length()) return false;
        for (int i = 0; i < wish.length(); i++) {
            if (wish.charAt(i) != '?' && wish.charAt(i) != came.charAt(i)) return false;
        }
        return true;
    }

    private static int waterings(String week) {
        return week.replace(".", "").length();
    }

    /** Fewer waterings, then the first by signs: the rain comes behind the letters. */
    private static String better(String one, String other) {
        if (waterings(one) != waterings(other)) return waterings(one) < waterings(other) ? one : other;
        return one.replace('*', '~').compareTo(other.replace('*', '~')) <= 0 ? one : other;
    }

    private static void chancesByWeeks() {
        sentence(TERMS, "CHANCES: without any WATERING, each MORNING, ahead of the bloom, it rains with WET tenths");
        chancesAsDone("rwyr", "", 3);
        chancesAsDone("rwyr", "cb", 4);
        chancesAsDone("rwyr", "bd.", 7);
        sentence(TERMS, ": that COLOURS of the next MORNINGS are as the WISH (a MORNING on which nothing blooms is not).");
        chancesAsDone("rwwr", "a", 1);
        chancesAsDone("wrrw", "dc", 0);
        chancesAsDone("wrrw", "ca", 10);
        sentence(22, "CHANCES. OUTSIDE; NO: there is a FAULT (2).");
        chancesAsDone("yyyp", "abcd...", 9);
        chancesAsDone("yyyp", "*....", 9);
    }

    /** Each weather is done as a week of its own; what is as wished is weighed and added up. */
    private static void chancesAsDone(String colours, String before, int wet) {
        for (int law = 0; law <= 2; law++) {
            for (String wish : texts("rwy?", 3)) {
                if (wish.isEmpty()) continue;
                Tended x = coloured(colours);
                x.set(0, law);
                x.set(2, wet);
                x.done(before);
                long upper = 0;
                long lower = 1;
                for (int i = 0; i < wish.length(); i++) lower *= 10;
                for (String weather : texts("wd", wish.length())) {
                    if (weather.length() != wish.length()) continue;
                    long weight = 1;
                    for (char c : weather.toCharArray()) weight *= c == 'w' ? wet : 10 - wet;
                    upper += isAsWished(x, weather, wish, colours) ? weight : 0;
                }
                x.write(wish);
                String what = " of " + wish + " by law " + law + ", wet " + wet + ", after " + before;
                long divisor = BigInteger.valueOf(upper).gcd(BigInteger.valueOf(lower)).longValue();
                due("chance(0)" + what, x.chance(0), upper / divisor);
                due("chance(1)" + what, x.chance(1), lower / divisor);
            }
        }
    }

    private static boolean isAsWished(Tended x, String weather, String wish, String colours) {
        int before = x.bloomed(-1);
        x.image(0);
        boolean isDone = x.done(weather.replace("w", "*.").replace("d", ".")) >= 0;
        boolean isWished = isDone;
        for (int i = 0; isDone && i < wish.length(); i++) {
            char colour = colours.charAt(x.bloomed(before + i));
            isWished = isWished && (wish.charAt(i) == '?' || wish.charAt(i) == colour);
        }
        x.restore(0);
        return isWished;
    }

    private static void turnsByWeeks() {
        sentence(TERMS, "TURNS: two gardeners, 0 first: each must WATER one BED that can be (none, if none can), then a MORNING "
                + "comes (nothing blooms, if THE ROW is empty).");
        for (int law = 0; law <= 2; law++) turnsAsDone(law, new String[] {"", "a", "ba", "bcd", "dacb", "ab.", "*.."});
        sentence(TERMS, "0 wishes that a BED blooms as soon as can be, 1 as late as can be: on which MORNING it does (1 on).");
        for (int law = 0; law <= 2; law++) turnsAsDone(law, new String[] {"cd", "dc", "*", "abd", "dcb."});
    }

    private static void turnsAsDone(int law, String[] weeks) {
        for (int gate = 1; gate <= 4; gate++) {
            for (String week : weeks) {
                Tended x = lawful(4, law);
                x.done(week);
                x.past(0, 2);
                x.set(1, gate);
                String bloomed = x.bloomedText();
                for (int bed = 0; bed < 4; bed++) {
                    boolean has = bloomed.indexOf('a' + bed) >= 0;
                    due("turns(" + bed + ") after " + week + " by law " + law + ", gate " + gate, x.turns(bed),
                            has ? NONE : played(law, gate, week, "", bed, 1));
                }
            }
        }
    }

    /** The morning on which a bed blooms; each play is a week that is done from the start. */
    private static int played(int law, int gate, String week, String play, int bed, int morning) {
        List<String> plays = new ArrayList<>();
        for (char c : "abcd".toCharArray()) if (bloomedBy(law, gate, week, play + c) != null) plays.add(play + c);
        if (plays.isEmpty()) plays.add(play);
        int best = 0;
        for (String watered : plays) {
            String bloomed = bloomedBy(law, gate, week, watered + ".");
            boolean isOver = bloomed.indexOf('a' + bed) >= 0;
            int end = isOver ? morning : played(law, gate, week, watered + ".", bed, morning + 1);
            if (best == 0) best = end;
            best = morning % 2 == 1 ? Math.min(best, end) : Math.max(best, end);
        }
        return best;
    }

    /** What has bloomed after a play; null: a sign of it can not be. */
    private static String bloomedBy(int law, int gate, String week, String play) {
        Tended x = lawful(4, law);
        x.done(week);
        x.past(0, 2);
        x.set(1, gate);
        return x.done(play) < 0 ? null : x.bloomedText();
    }
}
