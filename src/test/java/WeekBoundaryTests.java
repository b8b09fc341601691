/** The boundary cases of part 2, weeks: promises 9 to 16 and what the Terms say of them. */
public final class WeekBoundaryTests extends Edges {
    public static void main(String[] args) {
        lawOfThrees();
        wateringAgain();
        rain();
        rainPastTheGate();
        gates();
        gateBelowTheRow();
        hasBloomed();
        reachedPast();
        emptyRow();
        leastReason();
        judgedPlaces();
        judgeRefused();
        weeksDone();
        weeksRefused();
        rows();
        bloomedBeds();
        anew();
        anewLeavesTheRest();
        sightsLetIn();
        sightsRefused();
        forgetting();
        fillingsWithoutUntold();
        fillingsOfFour();
        fillingsOfNone();
        sightsAsked();
        sightsOfNoMorning();
        fillingsRefused();
        end("weeks");
    }

    private static void judged(Tended x, String text, int place, int why) {
        x.write(text);
        due("judge(0) of " + text, x.judge(0), place);
        due("judge(1) of " + text, x.judge(1), why);
    }

    private static void lawOfThrees() {
        sentence(TERMS, "0 (at first) the last of THE ROW blooms next, 1 the first, 2 of its last three (or fewer) the first");
        String[] blooms = {"abcdef", "aaaaaa", "aaabcd"};
        for (int law = 0; law <= 2; law++) {
            for (int length = 1; length <= 6; length++) {
                Tended x = new Tended();
                x.set(0, law);
                x.done(letters(length) + ".");
                due("by law " + law + " of " + letters(length), x.bloomedText(), blooms[law].substring(length - 1, length));
                due("the row by law " + law, x.rowText(), letters(length).replace(x.bloomedText(), ""));
            }
        }
        String[] orders = {"fedcba", "abcdef", "dcbaef"};
        for (int law = 0; law <= 2; law++) {
            Tended x = new Tended();
            x.set(0, law);
            due("six mornings", x.done("abcdef......"), 6);
            due("all by law " + law, x.standing(), "|" + orders[law]);
        }
    }

    private static void wateringAgain() {
        sentence(TERMS, "WATERING a BED: it is the last of THE ROW then (also if it was in it).");
        String[][] rows = {
            {"aa", "a"}, {"aba", "ba"}, {"abb", "ab"}, {"abcb", "acb"}, {"abcdefa", "bcdefa"}, {"abcdeff", "abcdef"},
            {"abcdefc", "abdefc"}, {"fedcbaf", "edcbaf"}, {"a".repeat(48), "a"},
        };
        for (String[] row : rows) due("the row after " + row[0], after(row[0]).standing(), row[1] + "|");
    }

    private static void rain() {
        sentence(TERMS, "RAIN: all BEDS that have not BLOOMED are in THE ROW then, by numbers");
        for (int n : BED_NUMBERS) {
            Tended x = ofBeds(n);
            due("rain on nothing", x.done("*"), 0);
            due("the row", x.standing(), letters(n) + "|");
            x.done(letters(n).charAt(0) + "*");
            due("the row after a watering and rain", x.rowText(), letters(n));
            x.done(".*");
            due("the row after a morning and rain", x.rowText(), letters(n - 1));
            x.done(".".repeat(n - 1));
            due("rain when all have bloomed", x.done("*"), 0);
            due("nothing is in the row", x.row(-1), 0);
            due("all have bloomed", x.bloomed(-1), n);
            judged(x, "*", NONE, NONE);
            judged(x, "*.", 1, 4);
        }
        due("the first and the last have bloomed", after("a.f.*").standing(), "bcde|af");
    }

    private static void rainPastTheGate() {
        sentence(TERMS, "(THE GATE, PAST do not matter)");
        Tended x = new Tended();
        x.set(1, 1);
        for (int bed = 0; bed < 5; bed++) x.past(bed, bed + 1);
        judged(x, "*", NONE, NONE);
        due("rain", x.week(), 0);
        due("the row", x.rowText(), "abcdef");
        judged(x, "abcdef", NONE, NONE);
        due("all waterings of what is in the row", x.done("fa"), 0);
        due("the row then", x.rowText(), "bcdefa");
    }

    private static void gates() {
        sentence(TERMS, "2 it is not in THE ROW, and THE ROW is full");
        for (int gate = 1; gate <= 6; gate++) {
            Tended x = new Tended();
            x.set(1, gate);
            String full = letters(gate);
            judged(x, full, NONE, NONE);
            judged(x, full + full, NONE, NONE);
            judged(x, full + ".*", NONE, NONE);
            if (gate == 6) continue;
            String next = letters(6).substring(gate, gate + 1);
            judged(x, full + next, gate, 2);
            judged(x, full + "f", gate, 2);
            judged(x, full + "." + next, NONE, NONE);
            judged(x, full + full + next, 2 * gate, 2);
            due("the full row", x.done(full), 0);
            judged(x, next, 0, 2);
            judged(x, full, NONE, NONE);
        }
        for (int n : BED_NUMBERS) judged(ofBeds(n), letters(n), NONE, NONE);
    }

    private static void gateBelowTheRow() {
        sentence(TERMS, "THE GATE: at most so many are in THE ROW");
        Tended x = after("abc");
        due("set(1, 1)", x.set(1, 1), 6);
        due("what is in the row stays", x.rowText(), "abc");
        judged(x, "abc", NONE, NONE);
        judged(x, "d", 0, 2);
        judged(x, ".d", 1, 2);
        judged(x, "..d", 2, 2);
        judged(x, "...d", NONE, NONE);
        x.set(1, 3);
        judged(x, "d", 0, 2);
        x.set(1, 4);
        judged(x, "de", 1, 2);
    }

    private static void hasBloomed() {
        sentence(TERMS, "1 the BED has BLOOMED");
        judged(new Tended(), "a.a", 2, 1);
        judged(new Tended(), "f.f", 2, 1);
        judged(new Tended(), "ab.a", NONE, NONE);
        judged(new Tended(), "ab.b", 3, 1);
        judged(after("*......"), "a", 0, 1);
        judged(after("*......"), "f", 0, 1);
        judged(after("*....."), "a", NONE, NONE);
    }

    private static void reachedPast() {
        sentence(TERMS, "3 the BED past which it is reached is neither in THE ROW nor has BLOOMED");
        int[][] ends = {{0, 5}, {5, 0}, {0, 1}, {1, 0}, {4, 5}};
        for (int[] end : ends) {
            Tended x = new Tended();
            x.past(end[0], end[1]);
            String bed = letters(6).substring(end[0], end[0] + 1);
            String way = letters(6).substring(end[1], end[1] + 1);
            judged(x, bed, 0, 3);
            judged(x, way + bed, NONE, NONE);
            judged(x, way + "." + bed, NONE, NONE);
            judged(x, "*" + bed, NONE, NONE);
            x.past(end[0], -1);
            judged(x, bed, NONE, NONE);
        }
        Tended x = after("b");
        x.past(0, 1);
        x.past(1, 2);
        judged(x, "a", NONE, NONE);
        judged(x, "b", 0, 3);
        judged(x, "cb", NONE, NONE);
    }

    private static void emptyRow() {
        sentence(TERMS, "4 (.) nothing is in THE ROW");
        judged(new Tended(), ".", 0, 4);
        judged(new Tended(), "a.", NONE, NONE);
        judged(new Tended(), "a..", 2, 4);
        judged(new Tended(), "*......", NONE, NONE);
        judged(new Tended(), "*.......", 7, 4);
        judged(after("ab.."), ".", 0, 4);
        judged(after("ab."), ".", NONE, NONE);
    }

    private static void leastReason() {
        sentence(TERMS, "A sign can not be for the least of these reasons");
        Tended x = new Tended();
        x.set(1, 1);
        x.past(1, 2);
        judged(x, "a.ca", 3, 1);
        judged(x, "ab", 1, 2);
        judged(x, "b", 0, 3);
        x = after("a.");
        x.past(0, 1);
        judged(x, "a", 0, 1);
        x.set(1, 1);
        judged(x, "ca", 1, 1);
        x = after("a");
        x.past(0, 1);
        x.set(1, 1);
        judged(x, "a", 0, 3);
    }

    private static void judgedPlaces() {
        sentence(9, "the sign (what = 0), why (1); NONE: all can be.");
        judged(new Tended(), "", NONE, NONE);
        judged(new Tended(), "a".repeat(48), NONE, NONE);
        judged(new Tended(), "*......" + "*".repeat(40) + ".", 47, 4);
        judged(new Tended(), "a." + "*".repeat(45) + "a", 47, 1);
        judged(new Tended(), ".".repeat(48), 0, 4);
        judged(new Tended(), "a..a.", 2, 4);
        Tended x = after("abc.");
        judged(x, "ab.....", 4, 4);
        due("judging does nothing", x.standing(), "ab|c");
        due("the pad stays", x.told(0), 7);
    }

    private static void judgeRefused() {
        sentence(9, "OUTSIDE; NO: there is a FAULT; STATE: there is some ?.");
        String[] texts = {"", "ab", "g", "?", "?g", "?????", "c?"};
        int[] answers = {NONE, NONE, NO, STATE, NO, NO, STATE};
        for (int i = 0; i < texts.length; i++) {
            Tended x = new Tended().write(texts[i]);
            due("judge(0) of " + texts[i], x.judge(0), answers[i]);
            due("judge(1) of " + texts[i], x.judge(1), answers[i]);
            dueForEach("judge of " + texts[i], x::judge, OUTSIDE, beyond(0, 1));
        }
        Tended x = after("a.");
        due("judge(0): ? behind a sign that can not be", x.write("a?").judge(0), STATE);
        due("judge(0): a fault behind a sign that can not be", x.write("ag").judge(0), NO);
        due("judge(0): four ?", x.write("????").judge(0), STATE);
        due("judge(0): a fault at the 48th sign", x.write("?" + "*".repeat(46) + "!").judge(0), NO);
        due("judge(0): ? at the 48th sign", x.write("*".repeat(47) + "?").judge(0), STATE);
    }

    private static void weeksDone() {
        sentence(10, "The WEEK on the PAD is done (the PAD is empty then): BEDS that BLOOMED in it.");
        Tended x = new Tended();
        due("week() of none", x.week(), 0);
        due("week() without a morning", x.done("abc"), 0);
        due("the pad", x.told(0), 0);
        due("week() with one", x.done("."), 1);
        due("the pad then", x.told(0), 0);
        due("week() of 48 signs", x.done("*".repeat(43) + "....."), 5);
        due("the pad of 48 is empty", x.told(0), 0);
        due("what is now", x.standing(), "|cfedba");
        due("week() when all have bloomed", x.done("*"), 0);
        due("all six in one week", new Tended().done("abcdef......"), 6);
        due("both of two", ofBeds(2).done("ab.."), 2);
    }

    private static void weeksRefused() {
        sentence(10, "NO: there is a FAULT, or (without ?) a sign that can not be; STATE: there is some ?.");
        String[] texts = {"g", "ab..g", "?????", "?g", "g?", "c", "ab....", "b.b", "?", "????", "c?", "?c", "..?."};
        int[] answers = {NO, NO, NO, NO, NO, NO, NO, NO, STATE, STATE, STATE, STATE, STATE};
        for (int i = 0; i < texts.length; i++) {
            Tended x = after("abc.");
            due("week() of " + texts[i], x.done(texts[i]), answers[i]);
            due("nothing of " + texts[i] + " is done", x.standing(), "ab|c");
            due("the pad stays", x.told(0), texts[i].length());
        }
        Tended x = after("*......");
        due("only the 48th sign can not be", x.done("*".repeat(47) + "."), NO);
        due("the pad of 48 stays", x.told(0), 48);
    }

    private static void rows() {
        sentence(11, "THE ROW: how many (i = -1), its i-th BED; NONE.");
        Tended x = new Tended();
        due("row(-1) of none", x.row(-1), 0);
        dueForEach("row of none", x::row, NONE, 0, 1, 5, 6, -2, LEAST, GREATEST);
        for (int length = 1; length <= 6; length++) {
            Tended y = after("fedcba".substring(0, length));
            due("row(-1)", y.row(-1), length);
            for (int i = 0; i < length; i++) due("row(" + i + ")", y.row(i), 5 - i);
            dueForEach("row of " + length, y::row, NONE, beyond(-1, length - 1));
        }
        x.done("*......");
        due("row(-1) when all have bloomed", x.row(-1), 0);
        due("row(0) when all have bloomed", x.row(0), NONE);
    }

    private static void bloomedBeds() {
        sentence(12, "What has BLOOMED: how many (i = -1), the i-th BED; NONE.");
        Tended x = new Tended();
        due("bloomed(-1) of none", x.bloomed(-1), 0);
        dueForEach("bloomed of none", x::bloomed, NONE, 0, 1, 5, 6, -2, LEAST, GREATEST);
        for (int number = 1; number <= 6; number++) {
            Tended y = after("*" + ".".repeat(number));
            due("bloomed(-1)", y.bloomed(-1), number);
            for (int i = 0; i < number; i++) due("bloomed(" + i + ")", y.bloomed(i), 5 - i);
            dueForEach("bloomed of " + number, y::bloomed, NONE, beyond(-1, number - 1));
        }
        x.done("ab");
        due("bloomed(-1), two in the row", x.bloomed(-1), 0);
        due("bloomed(0), two in the row", x.bloomed(0), NONE);
    }

    private static void anew() {
        sentence(13, "Nothing was watered, nothing has BLOOMED: how many had.");
        Tended x = new Tended();
        due("anew() of a new object", x.anew(), 0);
        x.done("abc");
        due("anew() when none has bloomed", x.anew(), 0);
        due("the row is empty", x.standing(), "|");
        x.done("ab.c");
        due("anew() when one has", x.anew(), 1);
        due("nothing is left of it", x.standing(), "|");
        x.done("*......");
        due("anew() when all have", x.anew(), 6);
        due("anew() again", x.anew(), 0);
        due("nothing is left of six", x.row(0) + " " + x.bloomed(0), "-6 -6");
        judged(x, "abcdef......", NONE, NONE);
        x.done("cb.");
        due("what blooms first then", x.standing(), "c|b");
    }

    private static void anewLeavesTheRest() {
        sentence(13, "Nothing was watered, nothing has BLOOMED");
        Tended x = new Tended();
        x.beds(5);
        x.colour(4, 3);
        x.past(0, 4);
        x.set(0, 2);
        x.set(1, 2);
        x.set(2, 10);
        x.done("ea");
        x.image(1);
        for (int i = 0; i < 6; i++) x.seen(i, 4);
        x.write("ab");
        String before = x.kept();
        x.anew();
        due("all but the row", x.kept(), before.substring(2));
        x.restore(1);
        due("the image", x.standing(), "ea|");
    }

    private static void sightsLetIn() {
        sentence(14, "A SIGHT more: how many.");
        for (int n : BED_NUMBERS) {
            Tended x = ofBeds(n);
            int[][] sights = {{0, 0}, {47, 0}, {0, n - 1}, {47, n - 1}, {0, 0}, {0, n - 1}};
            for (int i = 0; i < 6; i++) {
                due("seen no " + (i + 1), x.seen(sights[i][0], sights[i][1]), i + 1);
                due("told(5)", x.told(5), i + 1);
            }
        }
        sentence(TERMS, "SIGHTS, 6 at most");
        Tended x = new Tended();
        for (int i = 1; i <= 6; i++) due("the same seen again", x.seen(3, 3), i);
        due("seen no 7", x.seen(3, 3), FULL);
        due("told(5)", x.told(5), 6);
    }

    private static void sightsRefused() {
        sentence(14, "UNKNOWN: the BED; OUTSIDE: the MORNING 0 to 47; FULL.");
        for (int n : BED_NUMBERS) {
            for (int number : new int[] {0, 5, 6}) {
                Tended x = ofBeds(n);
                for (int i = 0; i < number; i++) x.seen(i, n - 1);
                dueForEach("seen(0, bed)", bed -> x.seen(0, bed), UNKNOWN, beyond(0, n - 1));
                dueForEach("seen(48, bed)", bed -> x.seen(48, bed), UNKNOWN, beyond(0, n - 1));
                dueForEach("seen(-1, bed)", bed -> x.seen(-1, bed), UNKNOWN, beyond(0, n - 1));
                dueForEach("seen(morning, 0)", morning -> x.seen(morning, 0), OUTSIDE, beyond(0, 47));
                dueForEach("seen(morning, last)", morning -> x.seen(morning, n - 1), OUTSIDE, beyond(0, 47));
                due("told(5)", x.told(5), number);
                due("seen(47, 0)", x.seen(47, 0), number == 6 ? FULL : number + 1);
            }
        }
    }

    private static void forgetting() {
        sentence(15, "SIGHTS go: how many there were.");
        Tended x = new Tended();
        due("forget() of none", x.forget(), 0);
        x.write("ab.");
        x.seen(0, 5);
        due("filled(-1), seen otherwise", x.filled(-1), 0);
        due("forget() of one", x.forget(), 1);
        due("filled(-1), forgotten", x.filled(-1), 1);
        due("forget() again", x.forget(), 0);
        for (int i = 0; i < 7; i++) x.seen(9, 5);
        due("forget() of a full six", x.forget(), 6);
        due("told(5)", x.told(5), 0);
        due("filled(-1), all forgotten", x.filled(-1), 1);
        due("seen then", x.seen(0, 1), 1);
        due("filled(-1), the old ones do not come back", x.filled(-1), 1);
    }

    private static void fillingsWithoutUntold() {
        sentence(16, "how many ways (i = -1), the BED of the i-th ? in the first; NONE.");
        due("filled(-1), the first call of all", new Tended().filled(-1), 1);
        due("filled(0), the first call of all", new Tended().filled(0), NONE);
        String[][] weeks = {{"", "1"}, {"ab.", "1"}, {".", "0"}, {"a..", "0"}, {"a".repeat(48), "1"}};
        for (String[] week : weeks) {
            Tended x = new Tended().write(week[0]);
            due("filled(-1) of " + week[0], x.filled(-1), Integer.parseInt(week[1]));
            dueForEach("filled of " + week[0], x::filled, NONE, 0, 1, 3, 4, -2, LEAST, GREATEST);
        }
    }

    private static void fillingsOfFour() {
        sentence(TERMS, "FILLED: ways to write BEDS for ? so that all signs of the WEEK can be");
        String[][] weeks = {
            {"?", "6", "a"}, {"??", "36", "aa"}, {"????", "1296", "aaaa"}, {"?.?.?.?.", "360", "abcd"},
            {"a".repeat(44) + "????", "1296", "aaaa"}, {"????" + "*".repeat(44), "1296", "aaaa"},
            {"*.....?", "1", "a"}, {"*....?", "2", "a"}, {"f?f?f?f?f", "1296", "aaaa"},
            {"a.b.c.d.?.", "2", "e"}, {"a.b.c.d.e.?.", "1", "f"},
        };
        for (String[] week : weeks) {
            Tended x = new Tended().write(week[0]);
            due("filled(-1) of " + week[0], x.filled(-1), Integer.parseInt(week[1]));
            int number = week[2].length();
            for (int i = 0; i < number; i++) due("filled(" + i + ") of " + week[0], x.filled(i), week[2].charAt(i) - 'a');
            dueForEach("filled of " + week[0], x::filled, NONE, beyond(-1, number - 1));
        }
        due("filled(-1) of ????, two beds", ofBeds(2).write("????").filled(-1), 16);
        Tended x = new Tended();
        x.set(1, 1);
        due("filled(-1) of ????, gate 1", x.write("????").filled(-1), 6);
        x.past(0, 1);
        due("filled(-1) of ?, a past b", x.write("?").filled(-1), 5);
        due("filled(0) of ?, a past b", x.filled(0), 1);
    }

    private static void fillingsOfNone() {
        sentence(16, "how many ways (i = -1)");
        String[] weeks = {"*......?", "????.....", ".?", "?.."};
        for (String week : weeks) {
            Tended x = new Tended().write(week);
            due("filled(-1) of " + week, x.filled(-1), 0);
            dueForEach("filled of " + week, x::filled, NONE, beyond(-1, -1));
        }
        Tended x = after("*......");
        due("filled(-1) of ?, all have bloomed", x.write("?").filled(-1), 0);
        due("filled(-1) of no sign, all have bloomed", x.write("").filled(-1), 1);
    }

    private static void sightsAsked() {
        sentence(TERMS, "what BLOOMS in it is as it was SEEN: SIGHTS, 6 at most: on a MORNING of the WEEK (0 on) a BED bloomed");
        for (int other = -1; other < 6; other++) {
            Tended x = new Tended();
            for (int morning = 0; morning < 6; morning++) {
                int bed = 5 - morning;
                x.seen(morning, morning == other ? (bed + 1) % 6 : bed);
            }
            due("six sights, the one at " + other + " otherwise", x.write("*......").filled(-1), other == -1 ? 1 : 0);
            due("a morning less than was seen", x.write("*.....").filled(-1), 0);
        }
        Tended x = after("*.");
        x.seen(0, 4);
        due("mornings are counted in the week", x.write(".").filled(-1), 1);
        x.seen(0, 4);
        due("the same seen twice", x.filled(-1), 1);
        x.seen(0, 3);
        due("two beds seen on one morning", x.filled(-1), 0);
        x = new Tended();
        x.seen(3, 5);
        due("the last ? is seen", x.write("?.?.?.?.").filled(-1), 60);
        due("filled(0)", x.filled(0), 0);
        due("filled(3)", x.filled(3), 5);
    }

    private static void sightsOfNoMorning() {
        sentence(TERMS, "(if the WEEK has no such MORNING, no way is so)");
        for (int mornings = 0; mornings <= 6; mornings++) {
            String week = "*" + ".".repeat(mornings);
            for (int morning : new int[] {0, mornings - 1, mornings, mornings + 1, 47}) {
                if (morning < 0) continue;
                Tended x = new Tended();
                x.seen(morning, Math.max(0, 5 - morning));
                due("seen on " + morning + ", filled(-1) of " + week, x.write(week).filled(-1), morning < mornings ? 1 : 0);
            }
        }
        Tended x = new Tended();
        x.seen(0, 0);
        due("filled(-1) of no sign", x.filled(-1), 0);
        due("filled(0) of no sign", x.filled(0), NONE);
        due("filled(-1) of ????", x.write("????").filled(-1), 0);
        due("filled(0) of ????", x.filled(0), NONE);
        due("filled(-1) of ?.", x.write("?.").filled(-1), 1);
    }

    private static void fillingsRefused() {
        sentence(16, "NO: there is a FAULT.");
        for (String week : new String[] {"g", "?????", "?g", "????" + "*".repeat(43) + "?", "a".repeat(47) + "!"}) {
            Tended x = new Tended().write(week);
            dueForEach("filled of " + week, x::filled, NO, -1, 0, 3, 4, -2, LEAST, GREATEST);
        }
        due("filled(-1) of ?, done as an impossible week", after("a.").write("a?").filled(-1), 0);
    }
}
