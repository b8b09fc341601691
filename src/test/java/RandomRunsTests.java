import java.util.ArrayList;
import java.util.Collections;
import java.util.List;
import java.util.Random;

/** Runs of 512 calls by chance (always the same ones), each answer held against PlainGarden. */
public final class RandomRunsTests {
    private static final int RUNS = 400, CALLS = 512;

    private final Random random;
    private final LastWatered x = new LastWatered();
    private final PlainGarden plain = new PlainGarden();
    private final List<String> told = new ArrayList<>();
    private int n = 6;
    private boolean wrong = false;

    private RandomRunsTests(int seed) {
        random = new Random(seed);
    }

    public static void main(String[] args) {
        int wrongRuns = 0;
        for (int seed = 0; seed < RUNS; seed++) {
            RandomRunsTests run = new RandomRunsTests(seed);
            run.go();
            if (run.wrong) {
                wrongRuns++;
                System.out.println("run " + seed + ": " + run.told);
            }
            if (wrongRuns >= 3) break;
        }
        System.out.println(RUNS + " random runs, wrong: " + wrongRuns);
        if (wrongRuns > 0) System.exit(1);
    }

    private boolean isOver() {
        return wrong || told.size() >= CALLS;
    }

    private void due(String call, long got, long want) {
        if (isOver()) return;
        told.add(call + "=" + got);
        if (got != want) {
            wrong = true;
            told.add("due is " + want);
        }
    }

    private void go() {
        while (!isOver()) {
            switch (random.nextInt(12)) {
                case 0, 1 -> settings();
                case 2, 3, 4 -> week();
                case 5 -> filled();
                case 6 -> order();
                case 7, 8 -> wish();
                case 9 -> turns();
                case 10 -> images();
                default -> odds();
            }
        }
    }

    private int upTo(int most) {
        return random.nextInt(most + 3) - 1;
    }

    private void settings() {
        if (random.nextInt(6) == 0) {
            int a = random.nextInt(4) == 0 ? upTo(7) : 6;
            due("beds(" + a + ")", x.beds(a), plain.beds(a));
            n = plain.told(1);
        }
        for (int i = random.nextInt(6); i > 0; i--) {
            int a = upTo(5);
            int b = upTo(3);
            due("colour(" + a + "," + b + ")", x.colour(a, b), plain.colour(a, b));
        }
        for (int i = random.nextInt(4); i > 0; i--) {
            int a = upTo(5);
            int b = upTo(6) - 1;
            due("past(" + a + "," + b + ")", x.past(a, b), plain.past(a, b));
        }
        for (int i = random.nextInt(3); i > 0; i--) {
            int a = upTo(2);
            int b = upTo(a == 2 ? 10 : a == 1 ? 6 : 2);
            due("set(" + a + "," + b + ")", x.set(a, b), plain.set(a, b));
        }
    }

    private void say(String text) {
        due("wipe()", x.wipe(), plain.wipe());
        for (char c : text.toCharArray()) due("say(" + c + ")", x.say(c), plain.say(c));
    }

    private String text(String signs, int length) {
        StringBuilder text = new StringBuilder();
        for (int i = 0; i < length; i++) text.append(signs.charAt(random.nextInt(signs.length())));
        return text.toString();
    }

    private String letters() {
        return "abcdef".substring(0, n);
    }

    private void judges() {
        for (int how = -1; how <= 3; how++) due("fault(" + how + ")", x.fault(how), plain.fault(how));
        for (int what = -1; what <= 2; what++) due("judge(" + what + ")", x.judge(what), plain.judge(what));
    }

    private void week() {
        String signs = letters() + (random.nextBoolean() ? "..." : ".") + (random.nextInt(3) == 0 ? "*" : "");
        if (random.nextInt(20) == 0) signs += "?g";
        say(text(signs, random.nextInt(random.nextInt(10) == 0 ? 50 : 8)));
        judges();
        due("week()", x.week(), plain.week());
        if (random.nextInt(4) == 0) {
            for (int i = -2; i <= 6; i++) {
                due("row(" + i + ")", x.row(i), plain.row(i));
                due("bloomed(" + i + ")", x.bloomed(i), plain.bloomed(i));
            }
        }
        if (random.nextInt(3) == 0) due("anew()", x.anew(), plain.anew());
    }

    private void filled() {
        say(text("??" + letters() + "..*", 1 + random.nextInt(8)));
        for (int tries = random.nextInt(3); tries >= 0; tries--) {
            for (int i = -2; i <= 4; i++) due("filled(" + i + ")", x.filled(i), plain.filled(i));
            int morning = random.nextInt(20) == 0 ? upTo(47) : random.nextInt(3);
            int bed = upTo(5);
            due("seen(" + morning + "," + bed + ")", x.seen(morning, bed), plain.seen(morning, bed));
        }
        due("week()", x.week(), plain.week());
        due("told(5)", x.told(5), plain.told(5));
        if (random.nextInt(4) > 0) due("forget()", x.forget(), plain.forget());
    }

    private void order() {
        List<Character> beds = new ArrayList<>();
        for (char c : letters().toCharArray()) beds.add(c);
        Collections.shuffle(beds, random);
        StringBuilder order = new StringBuilder();
        for (char c : beds) order.append(c);
        if (random.nextInt(8) == 0) order.setLength(random.nextInt(n));
        if (random.nextInt(8) == 0) order.append(text("abcdefg?", 1));
        say(order.toString());
        due("fault(1)", x.fault(1), plain.fault(1));
        due("canBe()", x.canBe(), plain.canBe());
        for (int i = -1; i <= 3; i++) due("pattern(" + i + ")", x.pattern(i), plain.pattern(i));
        due("behind()", x.behind(), plain.behind());
        int m = upTo(30);
        int k = random.nextBoolean() ? upTo(30) : upTo(6);
        due("orders(" + m + "," + k + ")", x.orders(m, k), plain.orders(m, k));
    }

    private void wish() {
        String signs = random.nextBoolean() ? "rwyp?" : "rrw?";
        say(text(signs, random.nextInt(n + 2)));
        due("fault(2)", x.fault(2), plain.fault(2));
        for (int i = -2; i <= 14; i++) due("fewest(" + i + ")", x.fewest(i), plain.fewest(i));
        for (int i = -1; i <= 2; i++) due("chance(" + i + ")", x.chance(i), plain.chance(i));
    }

    private void turns() {
        for (int bed = -1; bed <= 6; bed++) due("turns(" + bed + ")", x.turns(bed), plain.turns(bed));
    }

    private void images() {
        int i = upTo(1);
        if (random.nextBoolean()) due("image(" + i + ")", x.image(i), plain.image(i));
        else due("restore(" + i + ")", x.restore(i), plain.restore(i));
        n = plain.told(1);
    }

    private void odds() {
        for (int tries = 0; tries < 4; tries++) {
            int what = upTo(27);
            due("told(" + what + ")", x.told(what), plain.told(what));
        }
        int sign = random.nextInt(5) == 0 ? upTo(130) : 33 + random.nextInt(94);
        due("say(" + sign + ")", x.say(sign), plain.say(sign));
    }
}
