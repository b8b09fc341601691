import java.util.ArrayDeque;
import java.util.ArrayList;
import java.util.HashMap;
import java.util.List;
import java.util.Map;
import java.util.TreeSet;

/**
 * The document's words done the longest way, with lists and without any of the program's short cuts:
 * RandomRunsTests asks it what each call of LastWatered should answer.
 */
final class PlainGarden {
    static final int NONE = -6, UNKNOWN = -1, OUTSIDE = -2, STATE = -3, FULL = -4, NO = -5;
    static final long LOST = -1000000000000000000L;

    /** What is watered and what has bloomed. */
    record Now(List<Integer> row, List<Integer> bloomed) {
        Now copy() {
            return new Now(new ArrayList<>(row), new ArrayList<>(bloomed));
        }
    }

    /** What an image keeps. */
    record Kept(int n, int[] colours, int[] past, int law, int gate, int wet, Now now, List<int[]> sights) {
    }

    private int n = 6;
    private int[] colours = new int[6];
    private int[] past = {-1, -1, -1, -1, -1, -1};
    private int law = 0;
    private int gate = 6;
    private int wet = 3;
    private Now now = new Now(new ArrayList<>(), new ArrayList<>());
    private List<int[]> sights = new ArrayList<>();
    private String pad = "";
    private final Kept[] images = new Kept[2];

    private String asked = "";
    private String week = "";
    private int cost = 0;

    private boolean isBed(int bed) {
        return bed >= 0 && bed < n;
    }

    int beds(int count) {
        if (count < 2 || count > 6) return OUTSIDE;
        int was = n;
        n = count;
        colours = new int[6];
        past = new int[] {-1, -1, -1, -1, -1, -1};
        now = new Now(new ArrayList<>(), new ArrayList<>());
        sights = new ArrayList<>();
        return was;
    }

    int colour(int bed, int v) {
        if (!isBed(bed)) return UNKNOWN;
        if (v < 0 || v > 3) return OUTSIDE;
        int was = colours[bed];
        colours[bed] = v;
        return was;
    }

    int past(int bed, int other) {
        if (!isBed(bed) || (other != -1 && !isBed(other)) || bed == other) return UNKNOWN;
        for (int at = other; at != -1; at = past[at]) {
            if (past[at] == bed) return STATE;
        }
        int was = past[bed];
        past[bed] = other;
        return was == -1 ? NONE : was;
    }

    int set(int which, int v) {
        int[] least = {0, 1, 0};
        int[] most = {2, 6, 10};
        if (which < 0 || which > 2 || v < least[which] || v > most[which]) return OUTSIDE;
        int[] was = {law, gate, wet};
        if (which == 0) law = v;
        if (which == 1) gate = v;
        if (which == 2) wet = v;
        return was[which];
    }

    int say(int sign) {
        if (sign < 33 || sign > 126) return OUTSIDE;
        if (pad.length() == 48) return FULL;
        pad += (char) sign;
        return pad.length();
    }

    int wipe() {
        int was = pad.length();
        pad = "";
        return was;
    }

    private String letters() {
        return "abcdef".substring(0, n);
    }

    int fault(int how) {
        if (how < 0 || how > 2) return OUTSIDE;
        for (int i = 0; i < pad.length(); i++) {
            char c = pad.charAt(i);
            String before = pad.substring(0, i);
            boolean bed = letters().indexOf(c) >= 0;
            boolean stands;
            if (how == 0) {
                long untold = before.chars().filter(x -> x == '?').count();
                stands = bed || c == '*' || c == '.' || (c == '?' && untold < 4);
            } else if (how == 1) {
                stands = bed && before.indexOf(c) < 0;
            } else {
                stands = "rwyp?".indexOf(c) >= 0 && i < n;
            }
            if (!stands) return i;
        }
        boolean more = (how == 1 && pad.length() < n) || (how == 2 && pad.isEmpty());
        return more ? pad.length() : NONE;
    }

    private int next(Now at) {
        if (at.row().isEmpty()) return NONE;
        int size = at.row().size();
        if (law == 0) return at.row().get(size - 1);
        if (law == 1) return at.row().get(0);
        return at.row().get(size < 3 ? 0 : size - 3);
    }

    private int why(Now at, char sign) {
        if (sign == '*') return 0;
        if (sign == '.') return at.row().isEmpty() ? 4 : 0;
        Integer bed = sign - 'a';
        if (at.bloomed().contains(bed)) return 1;
        if (!at.row().contains(bed) && at.row().size() >= gate) return 2;
        Integer by = past[bed];
        return by == -1 || at.row().contains(by) || at.bloomed().contains(by) ? 0 : 3;
    }

    private Now after(Now at, char sign) {
        Now then = at.copy();
        if (sign == '*') {
            then.row().clear();
            for (int bed = 0; bed < n; bed++) if (!at.bloomed().contains(bed)) then.row().add(bed);
        } else if (sign == '.') {
            Integer bed = next(at);
            then.row().remove(bed);
            then.bloomed().add(bed);
        } else {
            Integer bed = sign - 'a';
            then.row().remove(bed);
            then.row().add(bed);
        }
        return then;
    }

    private int[] judged(String text) {
        Now at = now;
        for (int i = 0; i < text.length(); i++) {
            int why = why(at, text.charAt(i));
            if (why != 0) return new int[] {i, why};
            at = after(at, text.charAt(i));
        }
        return new int[] {NONE, NONE};
    }

    int judge(int what) {
        if (what < 0 || what > 1) return OUTSIDE;
        if (fault(0) != NONE) return NO;
        if (pad.indexOf('?') >= 0) return STATE;
        return judged(pad)[what];
    }

    int week() {
        if (fault(0) != NONE) return NO;
        if (pad.indexOf('?') >= 0) return STATE;
        if (judged(pad)[0] != NONE) return NO;
        int was = now.bloomed().size();
        for (char c : pad.toCharArray()) now = after(now, c);
        pad = "";
        return now.bloomed().size() - was;
    }

    private static int at(List<Integer> list, int i) {
        if (i == -1) return list.size();
        return i >= 0 && i < list.size() ? list.get(i) : NONE;
    }

    int row(int i) {
        return at(now.row(), i);
    }

    int bloomed(int i) {
        return at(now.bloomed(), i);
    }

    int anew() {
        int was = now.bloomed().size();
        now = new Now(new ArrayList<>(), new ArrayList<>());
        return was;
    }

    int seen(int morning, int bed) {
        if (!isBed(bed)) return UNKNOWN;
        if (morning < 0 || morning > 47) return OUTSIDE;
        if (sights.size() == 6) return FULL;
        sights.add(new int[] {morning, bed});
        return sights.size();
    }

    int forget() {
        int was = sights.size();
        sights = new ArrayList<>();
        return was;
    }

    /** All texts with letters for ?, each looked at by itself. */
    private void fillings(String text, List<String> all) {
        int place = text.indexOf('?');
        if (place >= 0) {
            for (char c : letters().toCharArray()) {
                fillings(text.substring(0, place) + c + text.substring(place + 1), all);
            }
            return;
        }
        if (judged(text)[0] != NONE) return;
        Now at = now;
        for (char c : text.toCharArray()) at = after(at, c);
        List<Integer> bloomed = at.bloomed().subList(now.bloomed().size(), at.bloomed().size());
        for (int[] sight : sights) {
            if (sight[0] >= bloomed.size() || bloomed.get(sight[0]) != sight[1]) return;
        }
        all.add(text);
    }

    int filled(int i) {
        if (fault(0) != NONE) return NO;
        List<String> all = new ArrayList<>();
        fillings(pad, all);
        if (i == -1) return all.size();
        List<Integer> places = new ArrayList<>();
        for (int p = 0; p < pad.length(); p++) if (pad.charAt(p) == '?') places.add(p);
        if (i < 0 || i >= places.size() || all.isEmpty()) return NONE;
        return new TreeSet<>(all).first().charAt(places.get(i)) - 'a';
    }

    /** All that comes out, whatever mornings are put between the waterings. */
    private void outputs(int watered, Now at, TreeSet<String> all) {
        if (at.bloomed().size() == n) {
            StringBuilder text = new StringBuilder();
            for (int bed : at.bloomed()) text.append((char) ('a' + bed));
            all.add(text.toString());
            return;
        }
        if (watered < n && at.row().size() < gate) outputs(watered + 1, after(at, (char) ('a' + watered)), all);
        if (!at.row().isEmpty()) outputs(watered, after(at, '.'), all);
    }

    int canBe() {
        if (fault(1) != NONE) return NO;
        TreeSet<String> all = new TreeSet<>();
        outputs(0, new Now(new ArrayList<>(), new ArrayList<>()), all);
        return all.contains(pad) ? 1 : 0;
    }

    long orders(int m, int k) {
        if (m < 1 || m > 30 || k < 1 || k > 30) return OUTSIDE;
        long[][] ways = new long[2 * m + 1][m + 2];
        ways[0][0] = 1;
        for (int step = 0; step < 2 * m; step++) {
            for (int h = 0; h <= m; h++) {
                if (h < k && h < m) ways[step + 1][h + 1] += ways[step][h];
                if (h > 0) ways[step + 1][h - 1] += ways[step][h];
            }
        }
        return ways[2 * m][0];
    }

    int pattern(int i) {
        if (i < 0 || i > 2) return OUTSIDE;
        if (fault(1) != NONE) return NO;
        for (int code = 0; code < n * n * n; code++) {
            int[] p = {code / (n * n), code / n % n, code % n};
            if (p[0] < p[1] && p[1] < p[2] && pad.charAt(p[0]) > pad.charAt(p[2])
                    && pad.charAt(p[2]) > pad.charAt(p[1])) {
                return p[i];
            }
        }
        return NONE;
    }

    /** Gardens in a line, all in use at once: what is in each, and what came out. */
    private boolean flows(String in, List<String> gardens, String out, TreeSet<String> dead) {
        if (out.equals(pad)) return true;
        if (!pad.startsWith(out)) return false;
        String key = in + gardens + out;
        if (!dead.add(key)) return false;
        for (int g = -1; g < gardens.size(); g++) {
            String from = g < 0 ? in : gardens.get(g);
            if (from.isEmpty()) continue;
            int place = g < 0 ? 0 : from.length() - 1;
            String bed = from.substring(place, place + 1);
            String rest = from.substring(0, place) + from.substring(place + 1);
            List<String> then = new ArrayList<>(gardens);
            if (g >= 0) then.set(g, rest);
            String outThen = out;
            if (g + 1 < gardens.size()) then.set(g + 1, gardens.get(g + 1) + bed);
            else outThen = out + bed;
            if (flows(g < 0 ? rest : in, then, outThen, dead)) return true;
        }
        return false;
    }

    int behind() {
        if (fault(1) != NONE) return NO;
        for (int gardens = 1; gardens <= 3; gardens++) {
            List<String> empty = new ArrayList<>();
            for (int g = 0; g < gardens; g++) empty.add("");
            if (flows(letters(), empty, "", new TreeSet<>())) return gardens;
        }
        return NONE;
    }

    private boolean pleases(int wished, int bed) {
        char sign = pad.charAt(wished);
        return sign == '?' || "rwyp".indexOf(sign) == colours[bed];
    }

    private static String key(Now at) {
        return at.row() + "" + new TreeSet<>(at.bloomed());
    }

    private Now stepWished(Now at, char sign) {
        if (why(at, sign) != 0) return null;
        int wished = at.bloomed().size() - now.bloomed().size();
        if (sign == '.' && !pleases(wished, next(at))) return null;
        return after(at, sign);
    }

    /** The whole graph of gardens first, then from its ends back how much each still costs. */
    private void findFewest() {
        String signs = "." + letters() + "*";
        Map<String, Now> all = new HashMap<>();
        Map<String, List<String[]>> into = new HashMap<>();
        ArrayDeque<Now> open = new ArrayDeque<>();
        ArrayDeque<String> back = new ArrayDeque<>();
        Map<String, Integer> togo = new HashMap<>();
        open.add(now);
        all.put(key(now), now);
        while (!open.isEmpty()) {
            Now at = open.remove();
            if (at.bloomed().size() - now.bloomed().size() == pad.length()) {
                togo.put(key(at), 0);
                back.add(key(at));
                continue;
            }
            for (char sign : signs.toCharArray()) {
                Now then = stepWished(at, sign);
                if (then == null) continue;
                if (all.putIfAbsent(key(then), then) == null) open.add(then);
                into.computeIfAbsent(key(then), x -> new ArrayList<>())
                        .add(new String[] {key(at), sign == '.' ? "0" : "1"});
            }
        }
        while (!back.isEmpty()) {
            String at = back.remove();
            for (String[] edge : into.getOrDefault(at, List.of())) {
                int more = togo.get(at) + Integer.parseInt(edge[1]);
                if (more < togo.getOrDefault(edge[0], Integer.MAX_VALUE)) {
                    togo.put(edge[0], more);
                    back.add(edge[0]);
                }
            }
        }
        cost = togo.getOrDefault(key(now), NONE);
        week = "";
        Now at = now;
        int left = cost;
        while (cost != NONE && at.bloomed().size() - now.bloomed().size() < pad.length()) {
            for (char sign : signs.toCharArray()) {
                Now then = stepWished(at, sign);
                int after = sign == '.' ? left : left - 1;
                if (then != null && togo.getOrDefault(key(then), -99) == after) {
                    week += sign;
                    at = then;
                    left = after;
                    break;
                }
            }
        }
    }

    int fewest(int i) {
        if (fault(2) != NONE) return NO;
        String all = pad + key(now) + law + gate + n + List.of(colours[0], colours[1], colours[2], colours[3],
                colours[4], colours[5], past[0], past[1], past[2], past[3]) + past[4] + past[5];
        if (!all.equals(asked)) {
            findFewest();
            asked = all;
        }
        if (i == -1) return cost;
        return i >= 0 && i < week.length() ? week.charAt(i) : NONE;
    }

    long chance(int part) {
        if (part < 0 || part > 1) return LOST + OUTSIDE;
        if (fault(2) != NONE) return LOST + NO;
        int mornings = pad.length();
        long upper = 0;
        long lower = 1;
        for (int m = 0; m < mornings; m++) lower *= 10;
        for (int weather = 0; weather < 1 << mornings; weather++) {
            long weight = 1;
            Now at = now;
            for (int m = 0; m < mornings && weight > 0; m++) {
                boolean rains = (weather >> m & 1) == 1;
                weight *= rains ? wet : 10 - wet;
                if (rains) at = after(at, '*');
                if (at.row().isEmpty() || !pleases(m, next(at))) weight = 0;
                else at = after(at, '.');
            }
            upper += weight;
        }
        for (long d = lower; d > 1; d--) {
            if (upper % d == 0 && lower % d == 0) {
                upper /= d;
                lower /= d;
                break;
            }
        }
        return part == 0 ? upper : lower;
    }

    private int play(Now at, int bed, int morning) {
        List<Integer> values = new ArrayList<>();
        List<Now> choices = new ArrayList<>();
        for (char c : letters().toCharArray()) if (why(at, c) == 0) choices.add(after(at, c));
        if (choices.isEmpty()) choices.add(at);
        for (Now choice : choices) {
            Now then = choice.row().isEmpty() ? choice : after(choice, '.');
            values.add(then.bloomed().contains(bed) ? morning : play(then, bed, morning + 1));
        }
        values.sort(null);
        return morning % 2 == 1 ? values.get(0) : values.get(values.size() - 1);
    }

    int turns(int bed) {
        if (!isBed(bed)) return UNKNOWN;
        return now.bloomed().contains(bed) ? NONE : play(now, bed, 1);
    }

    int image(int i) {
        if (i < 0 || i > 1) return OUTSIDE;
        images[i] = new Kept(n, colours.clone(), past.clone(), law, gate, wet, now.copy(), new ArrayList<>(sights));
        return 1;
    }

    int restore(int i) {
        if (i < 0 || i > 1) return OUTSIDE;
        Kept kept = images[i];
        if (kept == null) return STATE;
        n = kept.n();
        colours = kept.colours().clone();
        past = kept.past().clone();
        law = kept.law();
        gate = kept.gate();
        wet = kept.wet();
        now = kept.now().copy();
        sights = new ArrayList<>(kept.sights());
        return 1;
    }

    int told(int what) {
        int[] first = {pad.length(), n, law, gate, wet, sights.size()};
        if (what >= 0 && what <= 5) return first[what];
        if (what >= 10 && what < 10 + n) return colours[what - 10];
        if (what >= 20 && what < 20 + n) return past[what - 20] == -1 ? NONE : past[what - 20];
        return OUTSIDE;
    }
}
