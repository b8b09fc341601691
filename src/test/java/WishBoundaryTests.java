/** The boundary cases of part 4, wishes: promises 21 to 26, what the Terms say of them, and the 512th call. */
public final class WishBoundaryTests extends Edges {
    public static void main(String[] args) {
        colourLetters();
        noWatering();
        oneMore();
        mostWaterings();
        notToBeHad();
        firstBySigns();
        fewestRefused();
        wet();
        nothingBlooms();
        lowestTerms();
        chanceRefused();
        turnsBounds();
        turnsWithoutWatering();
        turnsByTurns();
        turnsRefused();
        imagesRefused();
        imagesByThemselves();
        imagesKeepAll();
        restoreRefused();
        padOfAnImage();
        toldNumbers();
        toldRefused();
        lastCall();
        end("wishes");
    }

    private static void wished(Tended x, String wish, int fewest, String week) {
        x.write(wish);
        due("fewest(-1) of " + wish, x.fewest(-1), fewest);
        for (int i = 0; i < week.length(); i++) due("fewest(" + i + ") of " + wish, x.fewest(i), week.charAt(i));
        dueForEach("fewest of " + wish, x::fewest, NONE, beyond(-1, week.length() - 1));
    }

    private static void colourLetters() {
        sentence(TERMS, "each of a COLOUR 0 to 3 (r w y p; 0 at first)");
        for (int v = 0; v <= 3; v++) {
            for (int letter = 0; letter <= 3; letter++) {
                Tended x = new Tended();
                for (int bed = 0; bed < 6; bed++) x.colour(bed, v);
                x.write("rwyp".substring(letter, letter + 1));
                due("fewest(-1) of the letter " + letter + ", all are " + v, x.fewest(-1), letter == v ? 1 : NONE);
                due("chance(0) of the letter " + letter + ", all are " + v, x.chance(0), letter == v ? 3 : 0);
                x.write("?");
                due("fewest(-1) of any, all are " + v, x.fewest(-1), 1);
            }
        }
    }

    private static void noWatering() {
        sentence(21, "FEWEST: how many (i = -1), the i-th sign of the WEEK (its code); NONE.");
        wished(after("a"), "?", 0, ".");
        wished(after("a"), "r", 0, ".");
        wished(after("*"), "??????", 0, "......");
        wished(after("*.."), "rrrr", 0, "....");
        Tended x = ofBeds(2);
        x.done("ab");
        wished(x, "??", 0, "..");
        x.done(".");
        wished(x, "?", 0, ".");
    }

    private static void oneMore() {
        sentence(TERMS, "FEWEST: from what is now, WATERINGS and RAIN (each counts 1; MORNINGS nothing)");
        wished(new Tended(), "?", 1, "a.");
        wished(new Tended(), "??", 1, "*..");
        wished(new Tended(), "??????", 1, "*......");
        wished(after("a."), "?", 1, "b.");
        wished(after("a"), "??", 1, ".b.");
        wished(after("a"), "???", 1, ".*..");
        wished(after("*....."), "?", 0, ".");
        wished(coloured("rwypyw"), "w", 1, "b.");
        wished(coloured("rrrrrp"), "p", 1, "f.");
        wished(coloured("prrrrr"), "p", 1, "a.");
    }

    private static void mostWaterings() {
        sentence(TERMS, "by which COLOURS of those that bloom next are as the WISH on the PAD: how many");
        Tended x = coloured("rrwwyp");
        x.set(0, 1);
        wished(x, "pywwrr", 5, "f.e.c.d.*..");
        x = coloured("wwpppy");
        x.done("adb");
        x.set(0, 1);
        x.set(1, 1);
        x.past(1, 3);
        wished(x, "?pwpwp", 6, "*cadbe......");
    }

    private static void notToBeHad() {
        sentence(21, "NONE.");
        wished(after("*......"), "?", NONE, "");
        wished(after("*....."), "??", NONE, "");
        wished(after("a."), "??????", NONE, "");
        wished(after("a."), "?????", 1, "*.....");
        wished(new Tended(), "w", NONE, "");
        wished(new Tended(), "?????w", NONE, "");
        wished(coloured("rw"), "rr", NONE, "");
        wished(coloured("rw"), "ww", NONE, "");
        wished(coloured("rw"), "wr", 1, "*..");
        wished(coloured("rw"), "rw", 2, "a.b.");
        Tended x = coloured("rw");
        x.done("a.");
        wished(x, "r", NONE, "");
        wished(x, "w", 1, "b.");
    }

    private static void firstBySigns() {
        sentence(TERMS, "the first such WEEK of these by signs (. first, then letters, then *) up to the last MORNING that is wished");
        wished(new Tended(), "r", 1, "a.");
        Tended x = coloured("rr");
        x.done("b");
        wished(x, "rr", 1, ".a.");
        x = coloured("rrw");
        x.done("a");
        wished(x, "?w", 1, ".c.");
        wished(x, "w?", 1, "c..");
        wished(x, "wrr", 1, "*...");
        x.set(0, 1);
        wished(x, "?w", 1, ".c.");
        wished(x, "wr", 2, "ca..");
    }

    private static void fewestRefused() {
        sentence(21, "NO: there is a FAULT (2).");
        for (int n : BED_NUMBERS) {
            for (String wish : new String[] {"", "r".repeat(n + 1), "a", "r.", "?".repeat(n) + "?", "r".repeat(48), "R"}) {
                Tended x = ofBeds(n).write(wish);
                dueForEach("fewest of " + wish, x::fewest, NO, -1, 0, 1, 12, 13, -2, LEAST, GREATEST);
            }
            due("fewest(-1) of n", ofBeds(n).write("?".repeat(n)).fewest(-1), 1);
        }
    }

    private static void chanceIs(Tended x, String wish, long upper, long lower) {
        x.write(wish);
        due("chance(0) of " + wish, x.chance(0), upper);
        due("chance(1) of " + wish, x.chance(1), lower);
    }

    private static void wet() {
        sentence(TERMS, "it rains with WET tenths (0 to 10; 3 at first)");
        int[][] fractions = {{0, 1}, {1, 10}, {1, 5}, {3, 10}, {2, 5}, {1, 2}, {3, 5}, {7, 10}, {4, 5}, {9, 10}, {1, 1}};
        Tended at = coloured("rw");
        at.done("a");
        chanceIs(at, "w", 3, 10);
        for (int wet = 0; wet <= 10; wet++) {
            Tended x = coloured("rw");
            x.done("a");
            x.set(2, wet);
            chanceIs(x, "w", fractions[wet][0], fractions[wet][1]);
            chanceIs(x, "r", fractions[10 - wet][0], fractions[10 - wet][1]);
            chanceIs(x, "?", 1, 1);
            chanceIs(x, "y", 0, 1);
            chanceIs(x, "ww", 0, 1);
        }
    }

    private static void nothingBlooms() {
        sentence(TERMS, "(a MORNING on which nothing blooms is not)");
        Tended x = new Tended();
        x.set(2, 0);
        chanceIs(x, "?", 0, 1);
        x.done("a");
        chanceIs(x, "?", 1, 1);
        chanceIs(x, "??", 0, 1);
        x.set(2, 10);
        chanceIs(x, "??????", 1, 1);
        x.done(".");
        chanceIs(x, "?????", 1, 1);
        chanceIs(x, "??????", 0, 1);
        x.done("*.....");
        chanceIs(x, "?", 0, 1);
        chanceIs(new Tended(), "?", 3, 10);
        chanceIs(new Tended(), "??????", 3, 10);
        due("chances do nothing", x.standing(), "|afedcb");
    }

    private static void lowestTerms() {
        sentence(TERMS, "Fractions are told in lowest terms by part: 0 the upper, 1 the lower number");
        Tended x = coloured("rrrrrw");
        x.done("abcde");
        x.set(2, 1);
        chanceIs(x, "rrrrrw", 59049, 1000000);
        chanceIs(x, "rrrrr", 59049, 100000);
        x.set(2, 5);
        chanceIs(x, "rrrrrw", 1, 64);
        x.set(2, 9);
        chanceIs(x, "rrrrrw", 9, 1000000);
        x.set(2, 8);
        chanceIs(x, "rrrrrw", 4, 15625);
        x.set(2, 10);
        chanceIs(x, "rrrrrw", 0, 1);
        chanceIs(x, "wrrrrr", 1, 1);
        x.set(2, 0);
        chanceIs(x, "rrrrrw", 0, 1);
        chanceIs(x, "rrrrr", 1, 1);
    }

    private static void chanceRefused() {
        sentence(22, "OUTSIDE; NO: there is a FAULT (2).");
        for (int n : BED_NUMBERS) {
            for (String wish : new String[] {"", "r".repeat(n + 1), "a", "?.", "?".repeat(48)}) {
                Tended x = ofBeds(n).write(wish);
                chanceIs(x, wish, LOST + NO, LOST + NO);
                dueForEach("chance of " + wish, x::chance, LOST + OUTSIDE, beyond(0, 1));
            }
            Tended x = ofBeds(n).write("?".repeat(n));
            dueForEach("chance of a good wish", x::chance, LOST + OUTSIDE, beyond(0, 1));
            due("chance(0) of n", x.chance(0), 3);
        }
        sentence(TERMS, "refused with LOST and the refusal");
        due("chance(2)", new Tended().chance(2), -1000000000000000002L);
        due("chance(0)", new Tended().chance(0), -1000000000000000005L);
    }

    private static void turnsBounds() {
        sentence(TERMS, "on which MORNING it does (1 on)");
        for (int n : BED_NUMBERS) {
            for (int bed = 0; bed < n; bed++) due("turns(" + bed + ") of nothing watered", ofBeds(n).turns(bed), 1);
            Tended x = ofBeds(n);
            x.done("bcdef".substring(0, n - 1));
            x.set(1, 1);
            due("turns(0), the gate is shut until the row is empty", x.turns(0), n);
            due("turns(1)", x.turns(1), 1);
        }
        Tended x = after("*.....");
        due("turns(0), the last one", x.turns(0), 1);
    }

    private static void turnsWithoutWatering() {
        sentence(TERMS, "each must WATER one BED that can be (none, if none can)");
        Tended x = after("b");
        x.set(1, 1);
        x.past(1, 0);
        x.write("b");
        due("b can not be watered", x.judge(1), 3);
        due("turns(1), none can be watered", x.turns(1), 1);
        due("turns(0), none can be watered", x.turns(0), 3);
        x = ofBeds(2);
        x.set(0, 1);
        x.done("ab");
        due("turns(0), by the first: a watering that does not hinder", x.turns(0), 1);
        due("turns(1), by the first: a is watered, b is first", x.turns(1), 1);
        x = ofBeds(2);
        x.done("*.");
        due("turns(0), one bed is left", x.turns(0), 1);
        due("turns(1), it has bloomed", x.turns(1), NONE);
    }

    private static void turnsByTurns() {
        sentence(TERMS, "two gardeners, 0 first");
        Tended x = new Tended();
        x.set(1, 1);
        x.done("b");
        due("turns(0): b blooms, 1 waters another, then 0 waters a", x.turns(0), 3);
        x = ofBeds(3);
        x.set(1, 1);
        x.done("b");
        due("turns(0), three beds: the same", x.turns(0), 3);
        x = ofBeds(2);
        x.set(1, 1);
        x.done("b");
        due("turns(0), two beds: 1 must water a", x.turns(0), 2);
    }

    private static void turnsRefused() {
        sentence(23, "TURNS; NONE: it has BLOOMED. UNKNOWN.");
        for (int n : BED_NUMBERS) {
            Tended x = ofBeds(n);
            dueForEach("turns", x::turns, UNKNOWN, beyond(0, n - 1));
            x.done("*.");
            due("turns of the last bed", x.turns(n - 1), NONE);
            due("turns of the first bed", x.turns(0) > 0 ? 1 : 0, 1);
            x.done(".".repeat(n - 1));
            for (int bed = 0; bed < n; bed++) due("turns of " + bed + ", all have bloomed", x.turns(bed), NONE);
            dueForEach("turns, all have bloomed", x::turns, UNKNOWN, beyond(0, n - 1));
        }
    }

    private static void imagesRefused() {
        sentence(24, "All but the PAD is kept in an IMAGE (0, 1): 1. OUTSIDE.");
        Tended x = after("ab.");
        dueForEach("image", x::image, OUTSIDE, beyond(0, 1));
        due("restore(0): none was kept", x.restore(0), STATE);
        due("restore(1): none was kept", x.restore(1), STATE);
        due("image(0)", x.image(0), 1);
        due("image(1)", x.image(1), 1);
        String before = x.kept();
        x.anew();
        dueForEach("image of another garden", x::image, OUTSIDE, beyond(0, 1));
        x.restore(0);
        due("the first image", x.kept(), before);
        x.anew();
        x.restore(1);
        due("the second image", x.kept(), before);
    }

    private static void imagesByThemselves() {
        sentence(25, "It is as it was when it was kept: 1.");
        Tended x = after("ab.");
        x.image(0);
        x.done("cd.");
        x.image(1);
        x.done("*....");
        String third = x.standing();
        due("restore(0)", x.restore(0), 1);
        due("of image 0", x.standing(), "a|b");
        due("restore(1)", x.restore(1), 1);
        due("of image 1", x.standing(), "ac|bd");
        due("restore(1) again", x.restore(1), 1);
        due("of image 1 again", x.standing(), "ac|bd");
        due("image(0) anew", x.image(0), 1);
        x.done("e.");
        x.colour(0, 3);
        x.restore(0);
        due("of the new image 0", x.standing() + x.told(10), "ac|bd0");
        due("a third garden was another", third, "|bdfeca");
    }

    private static void imagesKeepAll() {
        sentence(24, "All but the PAD is kept in an IMAGE");
        Tended x = ofBeds(5);
        for (int bed = 0; bed < 5; bed++) x.colour(bed, bed % 4);
        for (int bed = 1; bed < 5; bed++) x.past(bed, bed - 1);
        x.set(0, 2);
        x.set(1, 1);
        x.set(2, 10);
        x.done("*..");
        for (int i = 0; i < 6; i++) x.seen(i % 3, new int[] {0, 3, 4}[i % 3]);
        String before = x.write("*...").kept();
        due("filled(-1) as seen", x.filled(-1), 1);
        x.image(1);
        x.beds(6);
        x.set(0, 0);
        x.set(1, 6);
        x.set(2, 0);
        x.done("f.");
        for (int i = 0; i < 6; i++) x.seen(47 - i, 1);
        x.write("*...");
        due("filled(-1) of another garden", x.filled(-1), 0);
        x.restore(1);
        due("all", x.kept(), before);
        due("the sights", x.filled(-1), 1);
    }

    private static void restoreRefused() {
        sentence(25, "OUTSIDE; STATE: it was not.");
        Tended x = after("ab.");
        String before = x.kept();
        dueForEach("restore", x::restore, OUTSIDE, beyond(0, 1));
        due("restore(0)", x.restore(0), STATE);
        due("restore(1)", x.restore(1), STATE);
        x.image(1);
        due("restore(0), only 1 was kept", x.restore(0), STATE);
        dueForEach("restore, 1 was kept", x::restore, OUTSIDE, beyond(0, 1));
        due("all", x.kept(), before);
        Tended y = after("ab.");
        y.image(0);
        due("restore(1), only 0 was kept", y.restore(1), STATE);
        due("restore(0)", y.restore(0), 1);
    }

    private static void padOfAnImage() {
        sentence(24, "All but the PAD");
        Tended x = new Tended();
        x.write("abcdef");
        x.image(0);
        x.write("?".repeat(3));
        x.restore(0);
        due("the pad is not restored", x.told(0), 3);
        due("the signs are those of now", x.filled(-1), 216);
        x.wipe();
        x.restore(0);
        due("an empty pad stays empty", x.told(0), 0);
        x.write("*".repeat(48));
        x.image(1);
        x.restore(0);
        due("a full pad stays full", x.say('*'), FULL);
    }

    private static void toldNumbers() {
        sentence(26, "0 signs, 1 BEDS, 2 THE LAW, 3 THE GATE, 4 WET, 5 SIGHTS, 10 to 15 COLOURS, 20 to 25 PAST (NONE).");
        for (int n : BED_NUMBERS) {
            Tended x = ofBeds(n);
            x.set(0, 2);
            x.set(1, 1);
            x.set(2, 10);
            x.colour(0, 2);
            x.colour(n - 1, 3);
            x.past(n - 1, 0);
            for (int i = 0; i < 6; i++) x.seen(47, 0);
            x.write("!".repeat(48));
            int[] told = {48, n, 2, 1, 10, 6};
            for (int what = 0; what <= 5; what++) due("told(" + what + ")", x.told(what), told[what]);
            due("the first colour", x.told(10), 2);
            due("the last colour", x.told(9 + n), 3);
            due("the first past", x.told(20), NONE);
            due("the last past", x.told(19 + n), 0);
            x.wipe();
            x.forget();
            due("told(0) of none", x.told(0), 0);
            due("told(5) of none", x.told(5), 0);
        }
    }

    private static void toldRefused() {
        sentence(26, "OUTSIDE (also of BEDS that there are not).");
        for (int n : BED_NUMBERS) {
            Tended x = ofBeds(n);
            for (int what = -20; what <= 60; what++) {
                boolean isTold = what >= 0 && what <= 5 || what >= 10 && what < 10 + n || what >= 20 && what < 20 + n;
                if (!isTold) due("told(" + what + "), beds " + n, x.told(what), OUTSIDE);
            }
            dueForEach("told", x::told, OUTSIDE, beyond(-20, 60));
            dueForEach("told", x::told, OUTSIDE, LEAST + 10, LEAST + 15, LEAST + 20, LEAST + 25, GREATEST - 10, 256 + 10,
                    65536 + 20);
        }
    }

    private static void lastCall() {
        sentence(TERMS, "An object is used for at most 512 calls after it has been made");
        Tended x = coloured("rwypyw");
        x.done("abc.");
        while (x.calls() < 480) {
            x.write("rwypyw".substring(0, 1 + x.calls() % 5));
            x.fewest(-1);
            x.chance(0);
            x.turns(0);
        }
        x.write("wrp");
        while (x.calls() < 508) x.row(-1);
        due("fewest(-1): a third morning wants d", x.fewest(-1), 1);
        due("chance(0)", x.chance(0), 0);
        due("turns(5)", x.turns(5), 1);
        due("bloomed(0), the 512th call", x.bloomed(0), 2);
        due("calls", x.calls(), Tended.MOST_CALLS);
    }
}
