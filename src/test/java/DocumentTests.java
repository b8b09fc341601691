import java.io.IOException;
import java.lang.reflect.Constructor;
import java.lang.reflect.Method;
import java.lang.reflect.Modifier;
import java.nio.file.Files;
import java.nio.file.Path;
import java.util.ArrayList;
import java.util.Arrays;
import java.util.List;
import java.util.regex.Matcher;
import java.util.regex.Pattern;

/**
 * The document from its first line on: its first page, its face, and the sentences of parts 1 and 2 that say what a call
 * does rather than where it ends. SearchTests has those of what is searched for.
 */
public final class DocumentTests extends Edges {
    private static final Pattern FACE = Pattern.compile("## The public face\\s+```java\\n(.*?)```", Pattern.DOTALL);
    private static final Pattern FACE_CALL = Pattern.compile("public (int|long) (\\w+)\\(([^)]*)\\);");
    private static final Pattern FACE_NUMBER = Pattern.compile("([A-Z]+) = (-\\d+)L?[,;]");

    public static void main(String[] args) throws IOException, ReflectiveOperationException {
        String document = Files.readString(Path.of("../shared/DOC.md"));
        firstPageOfGardens();
        firstPageOfOrders();
        firstPageOfWishes();
        callsToTheLast();
        face(document);
        partsOfTheFace(document);
        refusedNumbers();
        rowByWaterings();
        morningsByLaws();
        padOfAWeek();
        faultOfAWeek();
        judgedFromNow();
        doneByParts();
        end("document");
    }

    private static Tended lawDone(int law, String week) {
        Tended x = lawful(6, law);
        x.done(week);
        return x;
    }

    private static void judged(Tended x, String week, int place, int why) {
        x.write(week);
        due("judge(0) of " + week, x.judge(0), place);
        due("judge(1) of " + week, x.judge(1), why);
    }

    // ---- What it is

    private static void firstPageOfGardens() {
        sentence(TERMS, "Last watered, first in bloom: a garden whose beds bloom one each morning, in the turned order of "
                + "their watering");
        for (int mornings = 0; mornings <= 6; mornings++) {
            Tended x = lawDone(0, "cafbed" + ".".repeat(mornings));
            due("after mornings " + mornings, x.bloomedText(), "debfac".substring(0, mornings));
        }
        sentence(TERMS, "; other laws, by the first, by threes");
        due("by the first", lawDone(1, "cafbed......").bloomedText(), "cafbed");
        due("by threes", lawDone(2, "cafbed......").bloomedText(), "bfaced");
        sentence(TERMS, "; gates that let through so many, beds that are reached only past others, rain that waters all at once");
        Tended x = new Tended();
        x.set(1, 2);
        judged(x, "abc", 2, 2);
        x.past(1, 0);
        judged(x, "b", 0, 3);
        judged(x, "ab", NONE, NONE);
        x.done("*");
        due("the row after rain", x.standing(), "abcdef|");
        sentence(TERMS, "; weeks told as small texts, the first sign that can not be, and why; what blooms when, what waits");
        x = new Tended();
        judged(x, "ab.b", 3, 1);
        x.done("abc..d.");
        due("what bloomed, and what waits", x.standing(), "a|cbd");
        sentence(TERMS, "; weeks with waterings that are not told: all ways to fill them");
        x.write("?.?");
        due("filled(-1): one of three beds, then one of two", x.filled(-1), 3 * 2);
    }

    private static void firstPageOfOrders() {
        sentence(TERMS, "; which orders of blooming can be had at all, how many, the pattern by which one can not, how many "
                + "gardens one behind the other make it");
        Tended x = ofBeds(3);
        int had = 0;
        for (String order : allOrders(3)) {
            boolean isHad = !order.equals("cab");
            x.write(order);
            had += x.canBe();
            due("canBe() of " + order, x.canBe(), isHad ? 1 : 0);
            for (int i = 0; i < 3; i++) due("pattern(" + i + ") of " + order, x.pattern(i), isHad ? NONE : i);
            due("behind() of " + order, x.behind(), isHad ? 1 : 2);
        }
        due("orders(3, 3)", x.orders(3, 3), had);
    }

    private static void firstPageOfWishes() {
        sentence(TERMS, "; colours that a duke wants in a row: the fewest waterings");
        Tended x = coloured("rwy").write("wry");
        due("fewest(-1)", x.fewest(-1), 3);
        StringBuilder week = new StringBuilder();
        for (int i = 0; x.fewest(i) != NONE; i++) week.append((char) x.fewest(i));
        due("the first week", week.toString(), "ab..c.");
        sentence(TERMS, "; rain by chance, exactly");
        x = new Tended().write("rr");
        due("chance(0)", x.chance(0), 3);
        due("chance(1)", x.chance(1), 10);
        sentence(TERMS, "; two gardeners by turns, one of whom would see a bed");
        x = lawful(3, 1);
        x.done("ab");
        due("turns(2): behind a and b", x.turns(2), 3);
        sentence(TERMS, "; images.");
        x.image(1);
        x.done("..");
        x.restore(1);
        due("as it was kept", x.standing(), "ab|");
    }

    private static void callsToTheLast() {
        sentence(TERMS, "; what later calls answer is free.");
        Tended x = new Tended();
        while (x.calls() < Tended.MOST_CALLS - 1) x.told(0);
        due("the 512th call", x.image(0), 1);
    }

    // ---- The public face

    private static void face(String document) throws ReflectiveOperationException {
        sentence(TERMS, "# LastWatered");
        Matcher text = FACE.matcher(document);
        due("the document has a face", text.find() ? 1 : 0, 1);
        Matcher call = FACE_CALL.matcher(text.group(1));
        int calls = 0;
        while (call.find()) {
            calls++;
            int arguments = call.group(3).isEmpty() ? 0 : call.group(3).split(",").length;
            Class<?>[] ints = new Class<?>[arguments];
            Arrays.fill(ints, int.class);
            Method method = LastWatered.class.getDeclaredMethod(call.group(2), ints);
            due(method + " is public", Modifier.isPublic(method.getModifiers()) ? 1 : 0, 1);
            due(method + " is of its object", Modifier.isStatic(method.getModifiers()) ? 1 : 0, 0);
            due(method + " answers", method.getReturnType().toString(), call.group(1));
        }
        due("calls of the face", calls, 25);
        Matcher number = FACE_NUMBER.matcher(text.group(1));
        int numbers = 0;
        while (number.find()) {
            numbers++;
            String got = LastWatered.class.getField(number.group(1)).get(null).toString();
            due(number.group(1), got, number.group(2));
        }
        due("constants of the face", numbers, 7);
        due("LOST is a long", LastWatered.class.getField("LOST").getType().toString(), "long");
        Constructor<?> made = LastWatered.class.getDeclaredConstructor();
        due("the constructor is public", Modifier.isPublic(made.getModifiers()) ? 1 : 0, 1);
    }

    /** The source has the calls in the order of the face, and its parts by their names ahead of them. */
    private static void partsOfTheFace(String document) throws IOException {
        String source = Files.readString(Path.of("src/main/java/LastWatered.java"));
        Matcher part = Pattern.compile("Ahead of the calls (.*) the interface says: (---- [1-4] [a-z]+)\\.").matcher(document);
        int at = 0;
        int parts = 0;
        while (part.find()) {
            parts++;
            List<String> wanted = new ArrayList<>();
            wanted.add("// " + part.group(2) + "\n");
            Matcher name = Pattern.compile("`(\\w+)`").matcher(part.group(1));
            while (name.find()) wanted.add(" " + name.group(1) + "(");
            for (String words : wanted) {
                int place = source.indexOf(words.startsWith(" ") ? "public" + typeOf(words) + words : words, at);
                due(words.trim() + " comes behind the others", place > at ? 1 : 0, 1);
                at = Math.max(at, place);
            }
        }
        due("parts of the face", parts, 4);
    }

    private static String typeOf(String name) {
        return name.equals(" orders(") || name.equals(" chance(") ? " long" : " int";
    }

    // ---- Terms

    private static void refusedNumbers() {
        sentence(TERMS, "Calls that are refused answer, the first of these that fits: UNKNOWN -1 (there is no such BED)");
        Tended x = new Tended();
        due("UNKNOWN", x.turns(6), -1);
        due("OUTSIDE", x.beds(1), -2);
        due("NO", x.behind(), -5);
        due("STATE", x.restore(0), -3);
        for (int sight = 0; sight < 6; sight++) x.seen(0, 0);
        due("FULL", x.seen(0, 0), -4);
        due("a fraction that is refused with OUTSIDE", x.chance(2), -1000000000000000002L);
        due("a fraction that is refused with NO", x.chance(0), -1000000000000000005L);
    }

    private static void rowByWaterings() {
        sentence(TERMS, "THE ROW: BEDS that were watered and are not in bloom yet, the last watered last.");
        for (String text : texts("abc.", 5)) {
            Tended x = ofBeds(3);
            if (x.done(text) == NO) continue;
            String bloomed = x.bloomedText();
            StringBuilder row = new StringBuilder();
            for (int i = 0; i < text.length(); i++) {
                String c = text.substring(i, i + 1);
                boolean isLast = text.indexOf(c, i + 1) < 0;
                if (!c.equals(".") && isLast && !bloomed.contains(c)) row.append(c);
            }
            due("the row after " + text, x.rowText(), row.toString());
        }
    }

    private static void morningsByLaws() {
        sentence(TERMS, "A MORNING: the next one of THE ROW blooms, and has BLOOMED then.");
        for (int law = 0; law <= 2; law++) {
            for (String order : allOrders(5)) {
                Tended x = lawDone(law, order);
                due("nothing blooms ahead of the morning", x.bloomed(-1), 0);
                int next = law == 0 ? 4 : law == 1 ? 0 : 2;
                due("week()", x.done("."), 1);
                String rest = order.substring(0, next) + order.substring(next + 1);
                due("after " + order + " and a morning by law " + law, x.standing(), rest + "|" + order.charAt(next));
                judged(x, order.substring(next, next + 1), 0, 1);
            }
        }
    }

    private static void padOfAWeek() {
        sentence(TERMS, "A WEEK is a text on a PAD (48 SIGNS at most, codes 33 to 126): letters of BEDS (WATERINGS)");
        Tended x = new Tended();
        String week = "abc.d.";
        for (int i = 0; i < week.length(); i++) {
            due("say no " + i, x.say(week.charAt(i)), i + 1);
            due("a sign that is refused is not on the pad", x.say(32), OUTSIDE);
            due("the pad is done by week() alone", x.standing(), "|");
            due("asked in between", x.judge(0), NONE);
        }
        due("week()", x.week(), 2);
        due("after the week", x.standing(), "ab|cd");
    }

    private static void faultOfAWeek() {
        sentence(TERMS, "THE FAULT (how = 0): the place (from 0 on) of the first sign that can not stand there.");
        for (String text : texts("ag?.", 6)) {
            int untold = 0;
            int want = NONE;
            for (int i = text.length() - 1; i >= 0; i--) if (text.charAt(i) == 'g') want = i;
            for (int i = 0; i < text.length(); i++) {
                if (text.charAt(i) == '?') untold++;
                if (untold == 5 && text.charAt(i) == '?') want = want == NONE ? i : Math.min(want, i);
            }
            due("fault(0) of " + text, new Tended().write(text).fault(0), want);
        }
    }

    private static void judgedFromNow() {
        sentence(TERMS, "A WEEK without ? from what is now: JUDGED: the first sign that can not be (from 0 on), and why.");
        for (String first : texts("ab.", 3)) {
            for (String then : texts("ab.", 3)) {
                Tended x = ofBeds(2);
                if (x.done(first) == NO) continue;
                Tended whole = ofBeds(2).write(first + then);
                int place = whole.judge(0);
                judged(x, then, place == NONE ? NONE : place - first.length(), whole.judge(1));
            }
        }
        sentence(9, "The WEEK on the PAD JUDGED:");
        Tended x = new Tended();
        judged(x, "abc.c", 4, 1);
        judged(x, "abc.b", NONE, NONE);
    }

    private static void doneByParts() {
        sentence(TERMS, "DONE. What BLOOMED, morning by morning; THE ROW.");
        String[] weeks = {"abcd..ef..*..", "fa*.bc.ab...", "ab.cd.ef.ab"};
        for (int law = 0; law <= 2; law++) {
            for (String week : weeks) {
                Tended whole = lawful(6, law);
                int all = whole.done(week);
                for (int cut = 0; cut <= week.length(); cut++) {
                    Tended x = lawful(6, law);
                    int first = x.done(week.substring(0, cut));
                    String early = x.bloomedText();
                    if (first == NO) continue;
                    due("beds that bloomed in the first part", first, early.length());
                    int second = x.done(week.substring(cut));
                    due("beds that bloomed in both parts of " + week, second == NO ? NO : first + second, all);
                    if (all == NO) continue;
                    due("after both parts of " + week, x.standing(), whole.standing());
                    due("what bloomed stays", whole.bloomedText().startsWith(early) ? 1 : 0, 1);
                }
            }
        }
    }
}
