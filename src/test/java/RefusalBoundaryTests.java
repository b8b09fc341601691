import java.util.function.ToLongFunction;

/** For each refusal: that it comes ahead of those behind it, and that the refused call changes nothing at all. */
public final class RefusalBoundaryTests extends Edges {
    private static final String UNTOLD_WEEK = "????" + "*".repeat(44);
    private static final String FAULTY_UNTOLD = "?????" + "*".repeat(43);

    public static void main(String[] args) {
        sentence(TERMS, "the first of these that fits: UNKNOWN -1 (there is no such BED), OUTSIDE -2 (another number is not as "
                + "told), NO -5 (as told), STATE -3 (as told), FULL -4. They change nothing.");
        for (String pad : new String[] {"", "..", "ab.", "abcde", "rw?", UNTOLD_WEEK, FAULTY_UNTOLD, "g?"}) {
            gardens(pad);
            weeks(pad);
            wishes(pad);
        }
        padsThatAreRefused();
        end("refusals");
    }

    /** A garden of which nothing is as at first: five beds, images, six sights, some in the row, some in bloom. */
    private static Tended garden(String pad) {
        Tended x = ofBeds(5);
        for (int bed = 0; bed < 5; bed++) x.colour(bed, (bed + 1) % 4);
        x.set(0, 1);
        x.set(1, 4);
        x.set(2, 7);
        x.done("bca.");
        x.image(0);
        x.past(1, 0);
        x.past(2, 1);
        x.past(4, 2);
        x.set(1, 2);
        x.done("ca");
        for (int sight = 0; sight < 6; sight++) x.seen(sight < 3 ? 0 : 1, sight < 3 ? 2 : 0);
        return x.write(pad);
    }

    /** What all calls answer, of what is now and of both images. */
    private static String everything(Tended x) {
        String text = x.all();
        for (int n = 0; n <= 1; n++) text += " restore " + x.restore(n) + " " + x.all();
        return text;
    }

    private static void refused(String pad, String call, ToLongFunction<Tended> asked, long want) {
        Tended x = garden(pad);
        due(call + " with the pad " + pad, asked.applyAsLong(x), want);
        due("all after " + call + " with the pad " + pad, everything(x), everything(garden(pad)));
    }

    private static void refusedForEach(String pad, String call, Asked asked, long want, int... numbers) {
        for (int number : numbers) refused(pad, call + " of " + number, x -> asked.of(x, number), want);
    }

    private interface Asked {
        long of(Tended x, int number);
    }

    private static void gardens(String pad) {
        refusedForEach(pad, "beds", Tended::beds, OUTSIDE, beyond(2, 6));
        refusedForEach(pad, "colour(bed, 0)", (x, bed) -> x.colour(bed, 0), UNKNOWN, beyond(0, 4));
        refusedForEach(pad, "colour(bed, 4)", (x, bed) -> x.colour(bed, 4), UNKNOWN, beyond(0, 4));
        refusedForEach(pad, "colour(4, v)", (x, v) -> x.colour(4, v), OUTSIDE, beyond(0, 3));
        refusedForEach(pad, "past(bed, 3)", (x, bed) -> x.past(bed, 3), UNKNOWN, beyond(0, 4));
        refusedForEach(pad, "past(bed, -1)", (x, bed) -> x.past(bed, -1), UNKNOWN, beyond(0, 4));
        refusedForEach(pad, "past(4, other)", (x, other) -> x.past(4, other), UNKNOWN, beyond(-1, 4));
        refusedForEach(pad, "past, both one", (x, bed) -> x.past(bed, bed), UNKNOWN, 0, 1, 2, 3, 4, 5, -1);
        refusedForEach(pad, "past(0, other)", (x, other) -> x.past(0, other), STATE, 1, 2, 4);
        refusedForEach(pad, "past(1, other)", (x, other) -> x.past(1, other), STATE, 2, 4);
        refused(pad, "past(2, 4)", x -> x.past(2, 4), STATE);
        refusedForEach(pad, "set(0, v)", (x, v) -> x.set(0, v), OUTSIDE, beyond(0, 2));
        refusedForEach(pad, "set(1, v)", (x, v) -> x.set(1, v), OUTSIDE, beyond(1, 6));
        refusedForEach(pad, "set(2, v)", (x, v) -> x.set(2, v), OUTSIDE, beyond(0, 10));
        refusedForEach(pad, "set(which, 1)", (x, which) -> x.set(which, 1), OUTSIDE, beyond(0, 2));
        refusedForEach(pad, "say", Tended::say, OUTSIDE, beyond(33, 126));
        refusedForEach(pad, "fault", Tended::fault, OUTSIDE, beyond(0, 2));
    }

    private static void weeks(String pad) {
        refusedForEach(pad, "judge", Tended::judge, OUTSIDE, beyond(0, 1));
        refusedForEach(pad, "seen(0, bed)", (x, bed) -> x.seen(0, bed), UNKNOWN, beyond(0, 4));
        refusedForEach(pad, "seen(48, bed)", (x, bed) -> x.seen(48, bed), UNKNOWN, beyond(0, 4));
        refusedForEach(pad, "seen(morning, 0)", (x, morning) -> x.seen(morning, 0), OUTSIDE, beyond(0, 47));
        refused(pad, "seen(0, 0), six were seen", x -> x.seen(0, 0), FULL);
        refused(pad, "seen(47, 4), six were seen", x -> x.seen(47, 4), FULL);
    }

    private static void wishes(String pad) {
        refusedForEach(pad, "orders(m, 1)", (x, m) -> x.orders(m, 1), OUTSIDE, beyond(1, 30));
        refusedForEach(pad, "orders(1, k)", (x, k) -> x.orders(1, k), OUTSIDE, beyond(1, 30));
        refusedForEach(pad, "pattern", Tended::pattern, OUTSIDE, beyond(0, 2));
        refusedForEach(pad, "chance", Tended::chance, LOST + OUTSIDE, beyond(0, 1));
        refusedForEach(pad, "turns", Tended::turns, UNKNOWN, beyond(0, 4));
        refusedForEach(pad, "image", Tended::image, OUTSIDE, beyond(0, 1));
        refusedForEach(pad, "restore", Tended::restore, OUTSIDE, beyond(0, 1));
        refused(pad, "restore(1), it was not kept", x -> x.restore(1), STATE);
        refusedForEach(pad, "told", Tended::told, OUTSIDE, -1, 6, 9, 15, 16, 19, 25, 26, LEAST, GREATEST);
    }

    private static void padsThatAreRefused() {
        String[] faulty = {"g?", "rw?", FAULTY_UNTOLD, "ab!".repeat(16)};
        for (String pad : faulty) {
            refusedForEach(pad, "judge", Tended::judge, NO, 0, 1);
            refused(pad, "week()", Tended::week, NO);
            refusedForEach(pad, "filled", Tended::filled, NO, -1, 0, 4, LEAST, GREATEST);
        }
        for (String pad : new String[] {"?", UNTOLD_WEEK, "....?", "b?"}) {
            refusedForEach(pad, "judge", Tended::judge, STATE, 0, 1);
            refused(pad, "week()", Tended::week, STATE);
        }
        for (String pad : new String[] {"b", "...", "c.a.*.....", "cad", "*".repeat(47) + "b"}) {
            refused(pad, "week()", Tended::week, NO);
        }
        for (String pad : new String[] {"", "abcd", "abcdea", "abcdf", "abcd?", "r"}) {
            refused(pad, "canBe()", Tended::canBe, NO);
            refused(pad, "behind()", Tended::behind, NO);
            refusedForEach(pad, "pattern", Tended::pattern, NO, 0, 1, 2);
        }
        for (String pad : new String[] {"", "rrrrrr", "a", "rw.", UNTOLD_WEEK}) {
            refusedForEach(pad, "fewest", Tended::fewest, NO, -1, 0, 12, LEAST, GREATEST);
            refusedForEach(pad, "chance", Tended::chance, LOST + NO, 0, 1);
        }
        for (String pad : new String[] {UNTOLD_WEEK, "a".repeat(48), "!".repeat(48)}) {
            refusedForEach(pad, "say", Tended::say, FULL, 33, 'a', '?', '*', '.', 126);
        }
    }
}
