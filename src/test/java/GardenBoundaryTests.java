/** The boundary cases of part 1, gardens: promises 1 to 8 and what the Terms say of them. */
public final class GardenBoundaryTests extends Edges {
    public static void main(String[] args) {
        newObject();
        bedsLetIn();
        bedsRefused();
        bedsAsAtFirst();
        bedsLeaveTheRest();
        colours();
        coloursRefused();
        pastNone();
        pastUnknown();
        pastState();
        pastStateEnds();
        settings();
        settingsRefused();
        codes();
        fullPad();
        wiping();
        howRefused();
        signsOfAWeek();
        untoldSigns();
        placesOfFaults();
        orderFaults();
        wishFaults();
        signsOfOrdersAndWishes();
        faultsByBeds();
        end("gardens");
    }

    private static void newObject() {
        Tended x = new Tended();
        sentence(1, "Six BEDS, nothing was watered.");
        due("told(1)", x.told(1), 6);
        due("row(-1)", x.row(-1), 0);
        due("row(0)", x.row(0), NONE);
        due("bloomed(-1)", x.bloomed(-1), 0);
        due("bloomed(0)", x.bloomed(0), NONE);
        due("anew()", x.anew(), 0);
        due("told(0): no sign", x.told(0), 0);
        due("told(5): no sight", x.told(5), 0);
        due("restore(0): no image", x.restore(0), STATE);
        due("restore(1): no image", x.restore(1), STATE);
        sentence(TERMS, "each of a COLOUR 0 to 3 (r w y p; 0 at first)");
        dueForEach("told", x::told, 0, 10, 11, 12, 13, 14, 15);
        sentence(TERMS, "PAST: another BED past which alone it is reached, or none (none at first)");
        dueForEach("told", x::told, NONE, 20, 21, 22, 23, 24, 25);
        sentence(TERMS, "THE GATE: at most so many are in THE ROW (1 to 6; 6 at first)");
        due("told(3)", x.told(3), 6);
        due("set(1, 6)", x.set(1, 6), 6);
        sentence(TERMS, "THE LAW: 0 (at first)");
        due("told(2)", x.told(2), 0);
        due("set(0, 0)", x.set(0, 0), 0);
        sentence(TERMS, "WET tenths (0 to 10; 3 at first)");
        due("told(4)", x.told(4), 3);
        due("set(2, 3)", x.set(2, 3), 3);
    }

    private static void bedsLetIn() {
        sentence(TERMS, "BEDS 0 to n less 1 (a on; n 2 to 6, 6 at first)");
        int was = 6;
        Tended x = new Tended();
        for (int n : new int[] {2, 3, 4, 5, 6, 2}) {
            due("beds(" + n + ")", x.beds(n), was);
            due("told(1)", x.told(1), n);
            due("the last bed of " + n, x.colour(n - 1, 1), 0);
            due("one more than " + n, x.colour(n, 1), UNKNOWN);
            due("the letter of the last of " + n, x.write(letters(n).substring(n - 1)).fault(0), NONE);
            due("a letter more than " + n, x.write("" + (char) ('a' + n)).fault(0), 0);
            was = n;
        }
    }

    private static void bedsRefused() {
        sentence(2, "OUTSIDE.");
        for (int n : new int[] {2, 6}) {
            Tended x = ofBeds(n);
            x.done("ab.");
            dueForEach("beds", x::beds, OUTSIDE, beyond(2, 6));
            due("told(1)", x.told(1), n);
            due("what was done", x.standing(), "a|b");
        }
    }

    private static void bedsAsAtFirst() {
        sentence(2, "COLOURS, PAST, what was watered, BLOOMED, SIGHTS are as at first then.");
        for (int n : BED_NUMBERS) {
            for (int then = 2; then <= 6; then++) {
                Tended x = ofBeds(n);
                for (int bed = 0; bed < n; bed++) x.colour(bed, 3);
                x.done("*.");
                for (int bed = 1; bed < n; bed++) x.past(bed, bed - 1);
                for (int sight = 0; sight < 6; sight++) x.seen(sight, n - 1);
                String call = "beds(" + then + ") of " + n;
                due(call, x.beds(then), n);
                due("the row and the bloom after " + call, x.standing(), "|");
                due("told(5) after " + call, x.told(5), 0);
                for (int bed = 0; bed < then; bed++) due("the colour after " + call, x.told(10 + bed), 0);
                for (int bed = 0; bed < then; bed++) due("the past after " + call, x.told(20 + bed), NONE);
                x.beds(6);
                for (int bed = 0; bed < 6; bed++) due("the colour of six after " + call, x.told(10 + bed), 0);
                for (int bed = 0; bed < 6; bed++) due("the past of six after " + call, x.told(20 + bed), NONE);
            }
        }
    }

    private static void bedsLeaveTheRest() {
        sentence(2, "How many BEDS there are: which it was.");
        Tended x = new Tended();
        x.set(0, 2);
        x.set(1, 1);
        x.set(2, 10);
        x.colour(5, 3);
        x.done("f.");
        x.image(0);
        x.write("*".repeat(48));
        due("beds(2)", x.beds(2), 6);
        due("the law, the gate, wet and the pad stay", x.told(2) + " " + x.told(3) + " " + x.told(4) + " " + x.told(0),
                "2 1 10 48");
        due("the image stays", x.restore(0), 1);
        due("the image has its beds", x.told(1) + " " + x.told(15) + " " + x.standing(), "6 3 |f");
    }

    private static void colours() {
        sentence(3, "COLOUR of a BED: which it was.");
        for (int n : BED_NUMBERS) {
            Tended x = ofBeds(n);
            for (int bed = 0; bed < n; bed++) {
                int was = 0;
                for (int v : new int[] {0, 3, 1, 2, 2, 3, 0}) {
                    due("colour(" + bed + ", " + v + ")", x.colour(bed, v), was);
                    was = v;
                }
                x.colour(bed, bed % 4);
            }
            for (int bed = 0; bed < n; bed++) due("the colour is that bed's alone", x.told(10 + bed), bed % 4);
        }
    }

    private static void coloursRefused() {
        sentence(3, "UNKNOWN; OUTSIDE.");
        for (int n : BED_NUMBERS) {
            Tended x = ofBeds(n);
            x.colour(0, 3);
            x.colour(n - 1, 3);
            dueForEach("colour of a bed", bed -> x.colour(bed, 1), UNKNOWN, beyond(0, n - 1));
            dueForEach("colour of a bed, and 4", bed -> x.colour(bed, 4), UNKNOWN, beyond(0, n - 1));
            dueForEach("colour of the first bed", v -> x.colour(0, v), OUTSIDE, beyond(0, 3));
            dueForEach("colour of the last bed", v -> x.colour(n - 1, v), OUTSIDE, beyond(0, 3));
            due("the first bed's colour", x.told(10), 3);
            due("the last bed's colour", x.told(9 + n), 3);
        }
    }

    private static void pastNone() {
        sentence(4, "PAST of a BED (-1: none): which it was (NONE).");
        for (int n : BED_NUMBERS) {
            Tended x = ofBeds(n);
            due("past(0, -1)", x.past(0, -1), NONE);
            due("past(0, last)", x.past(0, n - 1), NONE);
            due("past(0, last) again", x.past(0, n - 1), n - 1);
            due("told(20)", x.told(20), n - 1);
            due("past(0, -1) then", x.past(0, -1), n - 1);
            due("told(20) then", x.told(20), NONE);
            due("past(last, 0)", x.past(n - 1, 0), NONE);
            due("past(last, -1)", x.past(n - 1, -1), 0);
            due("past(last, -1) again", x.past(n - 1, -1), NONE);
        }
    }

    private static void pastUnknown() {
        sentence(4, "UNKNOWN: both, also both are one");
        for (int n : BED_NUMBERS) {
            Tended x = ofBeds(n);
            x.past(0, 1);
            String before = x.kept();
            dueForEach("past(bed, 0)", bed -> x.past(bed, 0), UNKNOWN, beyond(0, n - 1));
            dueForEach("past(bed, -1)", bed -> x.past(bed, -1), UNKNOWN, beyond(0, n - 1));
            dueForEach("past(0, other)", other -> x.past(0, other), UNKNOWN, beyond(-1, n - 1));
            dueForEach("past(last, other)", other -> x.past(n - 1, other), UNKNOWN, beyond(-1, n - 1));
            dueForEach("past, both one", bed -> x.past(bed, bed), UNKNOWN, beyond(0, n - 1));
            for (int bed = 0; bed < n; bed++) due("past, both are bed " + bed, x.past(bed, bed), UNKNOWN);
            due("all", x.kept(), before);
        }
    }

    private static void pastState() {
        sentence(4, "STATE: that one is reached past it (also past others).");
        for (int n : BED_NUMBERS) {
            for (int ahead = 0; ahead < n; ahead++) {
                Tended x = ofBeds(n);
                for (int bed = 1; bed < n; bed++) x.past(bed, bed - 1);
                String before = x.kept();
                for (int other = 0; other < n; other++) {
                    if (other <= ahead) continue;
                    due("past(" + ahead + ", " + other + ") of a chain of " + n, x.past(ahead, other), STATE);
                }
                due("all", x.kept(), before);
                int was = ahead == 0 ? NONE : ahead - 1;
                due("past(" + ahead + ", -1) of a chain", x.past(ahead, -1), was);
            }
        }
    }

    private static void pastStateEnds() {
        sentence(4, "STATE: that one is reached past it");
        Tended x = new Tended();
        for (int bed = 1; bed < 6; bed++) x.past(bed, bed - 1);
        due("past(5, 0): f is the end of the chain", x.past(5, 0), 4);
        due("past(4, 5): f is reached past a alone", x.past(4, 5), 3);
        due("past(5, 4): e is reached past f", x.past(5, 4), STATE);
        due("past(0, 4): e is reached past f past a", x.past(0, 4), STATE);
        due("past(5, -1)", x.past(5, -1), 0);
        due("past(0, 4): a is ahead of neither any more", x.past(0, 4), NONE);
        due("past(5, 3): d is reached past c, b, a, e, f", x.past(5, 3), STATE);
        Tended y = new Tended();
        for (int bed = 1; bed < 6; bed++) due("many past one", y.past(bed, 0), NONE);
        for (int bed = 1; bed < 6; bed++) due("none of them past a", y.past(0, bed), STATE);
        due("one of them past another", y.past(1, 5), 0);
    }

    private static final int[][] RANGES = {{0, 2, 0}, {1, 6, 6}, {0, 10, 3}};

    private static void settings() {
        sentence(5, "THE LAW (which = 0), THE GATE (1), WET (2): which it was.");
        Tended x = new Tended();
        for (int which = 0; which <= 2; which++) {
            int was = RANGES[which][2];
            for (int v = RANGES[which][0]; v <= RANGES[which][1]; v++) {
                due("set(" + which + ", " + v + ")", x.set(which, v), was);
                due("told(" + (2 + which) + ")", x.told(2 + which), v);
                was = v;
            }
            due("back to the least", x.set(which, RANGES[which][0]), RANGES[which][1]);
        }
        due("each is set by itself", x.told(2) + " " + x.told(3) + " " + x.told(4), "0 1 0");
    }

    private static void settingsRefused() {
        sentence(5, "OUTSIDE.");
        for (int which = 0; which <= 2; which++) {
            int of = which;
            for (int end = 0; end <= 1; end++) {
                Tended x = new Tended();
                x.set(which, RANGES[which][end]);
                dueForEach("set(" + which + ", v)", v -> x.set(of, v), OUTSIDE,
                        beyond(RANGES[which][0], RANGES[which][1]));
                due("told then", x.told(2 + which), RANGES[which][end]);
            }
        }
        Tended x = new Tended();
        dueForEach("set(which, 1)", which -> x.set(which, 1), OUTSIDE, beyond(0, 2));
        dueForEach("set(which, 11)", which -> x.set(which, 11), OUTSIDE, beyond(0, 2));
        due("all are as at first", x.told(2) + " " + x.told(3) + " " + x.told(4), "0 6 3");
    }

    private static void codes() {
        sentence(TERMS, "(48 SIGNS at most, codes 33 to 126)");
        Tended x = new Tended();
        for (int code = 33; code <= 79; code++) due("say(" + code + ")", x.say(code), code - 32);
        x.wipe();
        for (int code = 80; code <= 126; code++) due("say(" + code + ")", x.say(code), code - 79);
        sentence(6, "OUTSIDE; FULL.");
        dueForEach("say", x::say, OUTSIDE, beyond(33, 126));
        dueForEach("say of what looks like a", x::say, OUTSIDE, 'a' + 256, 'a' + 65536, 'a' - 256, 0, -1, 10, 13);
        due("told(0)", x.told(0), 47);
        x.wipe();
        dueForEach("say on an empty pad", x::say, OUTSIDE, beyond(33, 126));
        due("told(0)", x.told(0), 0);
    }

    private static void fullPad() {
        sentence(6, "A sign more: how many.");
        Tended x = new Tended();
        for (int i = 1; i <= 48; i++) due("say no " + i, x.say('*'), i);
        sentence(6, "FULL.");
        due("say no 49", x.say('*'), FULL);
        due("a sign that would be a fault", x.say('!'), FULL);
        due("told(0)", x.told(0), 48);
        due("the full pad has no fault", x.fault(0), NONE);
        sentence(TERMS, "OUTSIDE -2 (another number is not as told), NO -5 (as told), STATE -3 (as told), FULL -4");
        dueForEach("say on a full pad", x::say, OUTSIDE, beyond(33, 126));
        due("a full week is done", x.week(), 0);
        due("say then", x.say('a'), 1);
    }

    private static void wiping() {
        sentence(7, "Signs go: how many there were.");
        Tended x = new Tended();
        due("wipe() of none", x.wipe(), 0);
        x.say('a');
        due("wipe() of one", x.wipe(), 1);
        due("wipe() again", x.wipe(), 0);
        x.write("ab".repeat(24));
        x.say('c');
        due("wipe() of a full pad", x.wipe(), 48);
        due("told(0)", x.told(0), 0);
        due("no sign is left", x.filled(-1), 1);
        due("say then", x.say('!'), 1);
        due("fault(0) of it", x.fault(0), 0);
        x.wipe();
        x.done("ab.");
        String before = x.standing();
        x.write("a").wipe();
        due("only signs go", x.standing(), before);
    }

    private static void howRefused() {
        sentence(8, "OUTSIDE: how 0 to 2.");
        Tended x = new Tended();
        dueForEach("fault, pad empty", x::fault, OUTSIDE, beyond(0, 2));
        x.say('!');
        dueForEach("fault, a sign at fault", x::fault, OUTSIDE, beyond(0, 2));
        for (int how = 0; how <= 2; how++) due("fault(" + how + ")", x.fault(how), 0);
    }

    private static void signsOfAWeek() {
        sentence(TERMS, "letters of BEDS (WATERINGS), ? (a WATERING that is not told, 4 at most), * (RAIN), . (a MORNING)");
        for (int n : BED_NUMBERS) {
            Tended x = ofBeds(n);
            for (int code = 33; code <= 126; code++) {
                x.wipe();
                x.say(code);
                boolean stands = (letters(n) + "?*.").indexOf(code) >= 0;
                due("fault(0) of the sign " + code + ", beds " + n, x.fault(0), stands ? NONE : 0);
            }
        }
        sentence(8, "THE FAULT; NONE.");
        due("fault(0) of an empty pad", new Tended().fault(0), NONE);
    }

    private static void untoldSigns() {
        sentence(TERMS, "? (a WATERING that is not told, 4 at most)");
        String[][] weeks = {
            {"?", "-6"}, {"????", "-6"}, {"?????", "4"}, {"??????", "4"}, {"?a?b?c?d", "-6"}, {"?a?b?c?d?", "8"},
            {"a".repeat(44) + "????", "-6"}, {"a".repeat(43) + "?????", "47"}, {"????" + "*".repeat(43) + "?", "47"},
            {"????" + "*".repeat(44), "-6"}, {"????g?", "4"}, {"?????g", "4"},
        };
        for (String[] week : weeks) {
            due("fault(0) of " + week[0], new Tended().write(week[0]).fault(0), Integer.parseInt(week[1]));
        }
        due("fault(0) of ????, two beds", ofBeds(2).write("????").fault(0), NONE);
        due("fault(0) of ?????, two beds", ofBeds(2).write("?????").fault(0), 4);
    }

    private static void placesOfFaults() {
        sentence(TERMS, "the place (from 0 on) of the first sign that can not stand there");
        for (int place = 0; place < 48; place++) {
            String text = "a".repeat(place) + "!".repeat(48 - place);
            due("fault(0) of " + text, new Tended().write(text).fault(0), place);
        }
        due("fault(0) of 48 good signs", new Tended().write("a".repeat(48)).fault(0), NONE);
        due("fault(1): the first of two", new Tended().write("abaag").fault(1), 2);
        due("fault(2): the first of two", new Tended().write("rwaay").fault(2), 2);
    }

    private static void orderFaults() {
        sentence(TERMS, "AN ORDER as a text (how = 1): all BEDS, each once.");
        for (int n : BED_NUMBERS) {
            String all = letters(n);
            String turned = new StringBuilder(all).reverse().toString();
            due("fault(1) of " + all, ofBeds(n).write(all).fault(1), NONE);
            due("fault(1) of " + turned, ofBeds(n).write(turned).fault(1), NONE);
            for (int again = 1; again < n; again++) {
                for (int of = 0; of < again; of++) {
                    String text = all.substring(0, again) + all.charAt(of) + all.substring(again + 1);
                    due("fault(1) of " + text, ofBeds(n).write(text).fault(1), again);
                }
            }
            for (char more : (all + "g!?").toCharArray()) {
                due("fault(1) of one more", ofBeds(n).write(all + more).fault(1), n);
            }
            due("fault(1) of 48 signs", ofBeds(n).write(all + "a".repeat(48 - n)).fault(1), n);
        }
        sentence(TERMS, "the number of signs, if more must come (in an ORDER, a WISH of none)");
        for (int n : BED_NUMBERS) {
            for (int length = 0; length < n; length++) {
                due("fault(1) of " + length + " of " + n, ofBeds(n).write(letters(length)).fault(1), length);
            }
            due("fault(2) of none, beds " + n, ofBeds(n).fault(2), 0);
            due("fault(0) of none, beds " + n, ofBeds(n).fault(0), NONE);
        }
    }

    private static void wishFaults() {
        sentence(TERMS, "A WISH as a text (how = 2): 1 to n letters r w y p, or ? (any).");
        for (int n : BED_NUMBERS) {
            for (char sign : "rwyp?".toCharArray()) {
                for (int length = 1; length <= n; length++) {
                    String wish = ("" + sign).repeat(length);
                    due("fault(2) of " + wish + ", beds " + n, ofBeds(n).write(wish).fault(2), NONE);
                }
                String wish = ("" + sign).repeat(n + 1);
                due("fault(2) of " + wish + ", beds " + n, ofBeds(n).write(wish).fault(2), n);
                wish = ("" + sign).repeat(48);
                due("fault(2) of " + wish + ", beds " + n, ofBeds(n).write(wish).fault(2), n);
            }
            due("fault(2), the last at fault", ofBeds(n).write("r".repeat(n - 1) + "a").fault(2), n - 1);
            due("fault(2), one too many, at fault too", ofBeds(n).write("r".repeat(n) + "a").fault(2), n);
        }
    }

    private static void signsOfOrdersAndWishes() {
        sentence(TERMS, "FAULTS of these: likewise");
        for (int n : BED_NUMBERS) {
            Tended x = ofBeds(n);
            for (int code = 33; code <= 126; code++) {
                x.wipe();
                x.say(code);
                boolean isLetter = letters(n).indexOf(code) >= 0;
                due("fault(1) of the sign " + code + ", beds " + n, x.fault(1), isLetter ? 1 : 0);
                boolean isWished = "rwyp?".indexOf(code) >= 0;
                due("fault(2) of the sign " + code + ", beds " + n, x.fault(2), isWished ? NONE : 0);
            }
        }
    }

    private static void faultsByBeds() {
        sentence(8, "THE FAULT; NONE.");
        Tended x = new Tended();
        x.write("abcdef");
        due("fault(0) by six beds", x.fault(0), NONE);
        due("fault(1) by six beds", x.fault(1), NONE);
        x.beds(5);
        due("fault(0) by five beds", x.fault(0), 5);
        due("fault(1) by five beds", x.fault(1), 5);
        x.beds(2);
        due("fault(0) by two beds", x.fault(0), 2);
        due("fault(1) by two beds", x.fault(1), 2);
        x.beds(6);
        due("fault(1) by six beds again", x.fault(1), NONE);
        x.write("rrr");
        due("fault(2) by six beds", x.fault(2), NONE);
        x.beds(2);
        due("fault(2) by two beds", x.fault(2), 2);
    }
}
