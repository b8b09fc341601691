import java.util.Arrays;

/**
 * A garden whose beds bloom one each morning, as a rule the last watered first.
 * The promises of the document say what each public method answers; README.md shows a use.
 */
public final class LastWatered {
    public static final int NONE = -6, UNKNOWN = -1, OUTSIDE = -2, STATE = -3, FULL = -4, NO = -5;
    public static final long LOST = -1000000000000000000L;

    private static final int LEAST_BEDS = 2, MOST_BEDS = 6, COLOURS = 4;
    private static final int LAW_LAST = 0, LAW_FIRST = 1, LAWS = 3, MOST_GATE = 6, TENTHS = 10, FIRST_WET = 3;
    private static final int MOST_SIGNS = 48, LEAST_CODE = 33, MOST_CODE = 126;
    private static final int MOST_UNTOLD = 4, MOST_SIGHTS = 6, IMAGES = 2;
    private static final int MOST_ORDERED = 30, PATTERN_PLACES = 3, MOST_GARDENS = 3;
    private static final int MORNING = '.', RAIN = '*', UNTOLD = '?', FIRST_BED = 'a';
    private static final int NO_PAST = -1, HOW_MANY = -1;

    private final Pad pad = new Pad();
    private final Garden garden = new Garden();
    private final Garden[] images = new Garden[IMAGES];
    private final Filling filling = new Filling();
    private final Wishing wishing = new Wishing();
    private final long[] heights = new long[MOST_ORDERED + 1];

    public LastWatered() {
    }

    // ---- 1 gardens

    public int beds(int n) {
        if (n < LEAST_BEDS || n > MOST_BEDS) {
            return OUTSIDE;
        }
        int was = garden.beds;
        garden.layOut(n);
        dropAnswers();
        return was;
    }

    public int colour(int bed, int v) {
        if (!garden.isBed(bed)) {
            return UNKNOWN;
        }
        if (v < 0 || v >= COLOURS) {
            return OUTSIDE;
        }
        int was = garden.colours[bed];
        garden.colours[bed] = v;
        dropAnswers();
        return was;
    }

    public int past(int bed, int other) {
        boolean otherFits = other == NO_PAST || garden.isBed(other);
        if (!garden.isBed(bed) || !otherFits || other == bed) {
            return UNKNOWN;
        }
        if (garden.isReachedPast(other, bed)) {
            return STATE;
        }
        int was = garden.pastOf(bed);
        garden.past[bed] = other;
        dropAnswers();
        return was;
    }

    public int set(int which, int v) {
        int was;
        if (which == 0 && v >= 0 && v < LAWS) {
            was = garden.law;
            garden.law = v;
        } else if (which == 1 && v >= 1 && v <= MOST_GATE) {
            was = garden.gate;
            garden.gate = v;
        } else if (which == 2 && v >= 0 && v <= TENTHS) {
            was = garden.wet;
            garden.wet = v;
        } else {
            return OUTSIDE;
        }
        dropAnswers();
        return was;
    }

    public int say(int sign) {
        if (sign < LEAST_CODE || sign > MOST_CODE) {
            return OUTSIDE;
        }
        if (!pad.write(sign)) {
            return FULL;
        }
        dropAnswers();
        return pad.count;
    }

    public int wipe() {
        int was = pad.count;
        pad.count = 0;
        dropAnswers();
        return was;
    }

    public int fault(int how) {
        switch (how) {
            case 0: return pad.weekFault(garden.beds);
            case 1: return pad.orderFault(garden.beds);
            case 2: return pad.wishFault(garden.beds);
            default: return OUTSIDE;
        }
    }

    // ---- 2 weeks

    public int judge(int what) {
        if (what < 0 || what > 1) {
            return OUTSIDE;
        }
        if (isFaultyWeek()) {
            return NO;
        }
        if (pad.numberOf(UNTOLD) > 0) {
            return STATE;
        }
        return what == 0 ? garden.firstImpossible(pad) : garden.whyImpossible(pad);
    }

    public int week() {
        if (isFaultyWeek()) {
            return NO;
        }
        if (pad.numberOf(UNTOLD) > 0) {
            return STATE;
        }
        if (garden.firstImpossible(pad) != NONE) {
            return NO;
        }
        int before = Stand.numberBloomed(garden.stand);
        garden.live(pad);
        pad.count = 0;
        dropAnswers();
        return Stand.numberBloomed(garden.stand) - before;
    }

    public int row(int i) {
        int length = Stand.length(garden.stand);
        if (i == HOW_MANY) {
            return length;
        }
        return i >= 0 && i < length ? Stand.bedAt(garden.stand, i) : NONE;
    }

    public int bloomed(int i) {
        int number = Stand.numberBloomed(garden.stand);
        if (i == HOW_MANY) {
            return number;
        }
        return i >= 0 && i < number && i < MOST_BEDS ? garden.inBloom[i] : NONE;
    }

    public int anew() {
        int was = Stand.numberBloomed(garden.stand);
        garden.stand = Stand.EMPTY;
        dropAnswers();
        return was;
    }

    public int seen(int morning, int bed) {
        if (!garden.isBed(bed)) {
            return UNKNOWN;
        }
        if (morning < 0 || morning >= MOST_SIGNS) {
            return OUTSIDE;
        }
        if (!garden.see(morning, bed)) {
            return FULL;
        }
        dropAnswers();
        return garden.sights;
    }

    public int forget() {
        int was = garden.sights;
        garden.sights = 0;
        dropAnswers();
        return was;
    }

    public int filled(int i) {
        if (isFaultyWeek()) {
            return NO;
        }
        if (!filling.isKnown) {
            filling.search(garden, pad);
        }
        return i == HOW_MANY ? filling.ways : filling.firstAt(i);
    }

    // ---- 3 orders

    public int canBe() {
        if (isFaultyOrder()) {
            return NO;
        }
        return Order.isHadFrom(garden, pad.order()) ? 1 : 0;
    }

    public long orders(int m, int k) {
        if (m < 1 || m > MOST_ORDERED || k < 1 || k > MOST_ORDERED) {
            return OUTSIDE;
        }
        return Order.number(heights, m, k);
    }

    public int pattern(int i) {
        if (i < 0 || i >= PATTERN_PLACES) {
            return OUTSIDE;
        }
        if (isFaultyOrder()) {
            return NO;
        }
        int places = Order.firstPattern(pad.order(), garden.beds);
        return places == NONE ? NONE : Packed.at(places, i);
    }

    public int behind() {
        if (isFaultyOrder()) {
            return NO;
        }
        return Order.fewestGardens(pad.order(), garden.beds);
    }

    // ---- 4 wishes

    public int fewest(int i) {
        if (isFaultyWish()) {
            return NO;
        }
        if (!wishing.isKnown) {
            wishing.search(garden, pad);
        }
        return i == HOW_MANY ? wishing.waterings : wishing.signAt(i);
    }

    public long chance(int part) {
        if (part < 0 || part > 1) {
            return LOST + OUTSIDE;
        }
        if (isFaultyWish()) {
            return LOST + NO;
        }
        long upper = Chance.ofWish(garden, pad);
        long lower = Chance.allTenths(pad.count);
        return Chance.reduced(part == 0 ? upper : lower, Chance.commonDivisor(upper, lower));
    }

    public int turns(int bed) {
        if (!garden.isBed(bed)) {
            return UNKNOWN;
        }
        if (Stand.hasBloomed(garden.stand, bed)) {
            return NONE;
        }
        return Gardeners.morningOfBloom(garden, bed);
    }

    public int image(int n) {
        if (n < 0 || n >= IMAGES) {
            return OUTSIDE;
        }
        if (images[n] == null) {
            images[n] = new Garden();
        }
        images[n].copyFrom(garden);
        return 1;
    }

    public int restore(int n) {
        if (n < 0 || n >= IMAGES) {
            return OUTSIDE;
        }
        if (images[n] == null) {
            return STATE;
        }
        garden.copyFrom(images[n]);
        dropAnswers();
        return 1;
    }

    public int told(int what) {
        if (garden.isBed(what - 10)) {
            return garden.colours[what - 10];
        }
        if (garden.isBed(what - 20)) {
            return garden.pastOf(what - 20);
        }
        switch (what) {
            case 0: return pad.count;
            case 1: return garden.beds;
            case 2: return garden.law;
            case 3: return garden.gate;
            case 4: return garden.wet;
            case 5: return garden.sights;
            default: return OUTSIDE;
        }
    }

    private boolean isFaultyWeek() {
        return pad.weekFault(garden.beds) != NONE;
    }

    private boolean isFaultyOrder() {
        return pad.orderFault(garden.beds) != NONE;
    }

    private boolean isFaultyWish() {
        return pad.wishFault(garden.beds) != NONE;
    }

    /** Searches are kept until something changes, since their answers are asked for sign by sign. */
    private void dropAnswers() {
        filling.isKnown = false;
        wishing.isKnown = false;
    }

    /** Small numbers (0 to 7) side by side in one int: rows that cost no objects. */
    private static final class Packed {
        static final int BITS = 3, MASK = 7;

        static int at(int packed, int place) {
            return packed >>> BITS * place & MASK;
        }

        static int put(int number, int place) {
            return number << BITS * place;
        }
    }

    /**
     * THE ROW and what has BLOOMED in one int: packed row, set of beds in it, set of beds in bloom.
     * Searches try thousands of these, and equal gardens are equal numbers.
     */
    private static final class Stand {
        static final int EMPTY = 0;
        private static final int IN_ROW = 18, IN_BLOOM = 24, ALL = 63, ROW = (1 << IN_ROW) - 1;

        static int length(int stand) {
            return Integer.bitCount(stand >>> IN_ROW & ALL);
        }

        static int numberBloomed(int stand) {
            return Integer.bitCount(stand >>> IN_BLOOM & ALL);
        }

        static int bedAt(int stand, int place) {
            return Packed.at(stand, place);
        }

        static boolean isInRow(int stand, int bed) {
            return (stand >>> IN_ROW + bed & 1) == 1;
        }

        static boolean hasBloomed(int stand, int bed) {
            return (stand >>> IN_BLOOM + bed & 1) == 1;
        }

        static int watered(int stand, int bed) {
            int rest = isInRow(stand, bed) ? without(stand, placeOf(stand, bed)) : stand;
            return rest | Packed.put(bed, length(rest)) | 1 << IN_ROW + bed;
        }

        static int rained(int stand, int beds) {
            int now = stand & ALL << IN_BLOOM;
            int place = 0;
            for (int bed = 0; bed < beds; bed++) {
                if (!hasBloomed(stand, bed)) {
                    now |= Packed.put(bed, place) | 1 << IN_ROW + bed;
                    place++;
                }
            }
            return now;
        }

        static int afterBloom(int stand, int place) {
            return without(stand, place) | 1 << IN_BLOOM + bedAt(stand, place);
        }

        private static int placeOf(int stand, int bed) {
            int last = length(stand) - 1;
            for (int place = 0; place < last; place++) {
                if (bedAt(stand, place) == bed) {
                    return place;
                }
            }
            return last;
        }

        private static int without(int stand, int place) {
            int row = stand & ROW;
            int ahead = row & (1 << Packed.BITS * place) - 1;
            int after = row >>> Packed.BITS * (place + 1);
            int sets = stand & ~ROW & ~(1 << IN_ROW + Packed.at(row, place));
            return sets | ahead | Packed.put(after, place);
        }
    }

    /** All that an image keeps: the beds, the settings, how it stands, the sights. */
    private static final class Garden {
        int beds = MOST_BEDS;
        int law = LAW_LAST;
        int gate = MOST_GATE;
        int wet = FIRST_WET;
        int stand = Stand.EMPTY;
        int sights = 0;
        final int[] colours = new int[MOST_BEDS];
        final int[] past = {NO_PAST, NO_PAST, NO_PAST, NO_PAST, NO_PAST, NO_PAST};
        final int[] inBloom = new int[MOST_BEDS];
        private final int[] sightMornings = new int[MOST_SIGHTS];
        private final int[] sightBeds = new int[MOST_SIGHTS];

        void layOut(int n) {
            beds = n;
            stand = Stand.EMPTY;
            sights = 0;
            Arrays.fill(colours, 0);
            Arrays.fill(past, NO_PAST);
        }

        void copyFrom(Garden other) {
            beds = other.beds;
            law = other.law;
            gate = other.gate;
            wet = other.wet;
            stand = other.stand;
            sights = other.sights;
            for (int bed = 0; bed < MOST_BEDS; bed++) {
                colours[bed] = other.colours[bed];
                past[bed] = other.past[bed];
                inBloom[bed] = other.inBloom[bed];
            }
            for (int sight = 0; sight < MOST_SIGHTS; sight++) {
                sightMornings[sight] = other.sightMornings[sight];
                sightBeds[sight] = other.sightBeds[sight];
            }
        }

        boolean isBed(int bed) {
            return bed >= 0 && bed < beds && bed < MOST_BEDS;
        }

        int pastOf(int bed) {
            return isBed(bed) && past[bed] != NO_PAST ? past[bed] : NONE;
        }

        /** Whether the way to a bed leads past another one, at whatever distance. */
        boolean isReachedPast(int bed, int other) {
            int at = bed;
            for (int steps = 0; steps < MOST_BEDS && isBed(at); steps++) {
                at = past[at];
                if (at == other) {
                    return true;
                }
            }
            return false;
        }

        /** The reason (1 to 4) for which a sign can not be; 0: it can. */
        int whyNot(int at, int sign) {
            if (sign == RAIN) {
                return 0;
            }
            if (sign == MORNING) {
                return Stand.length(at) == 0 ? 4 : 0;
            }
            return whyNotWater(at, sign - FIRST_BED);
        }

        int whyNotWater(int at, int bed) {
            if (Stand.hasBloomed(at, bed)) {
                return 1;
            }
            if (!Stand.isInRow(at, bed) && Stand.length(at) >= gate) {
                return 2;
            }
            int way = pastOf(bed);
            return way == NONE || Stand.isInRow(at, way) || Stand.hasBloomed(at, way) ? 0 : 3;
        }

        /** How it stands after a sign that can be. */
        int after(int at, int sign) {
            if (sign == RAIN) {
                return Stand.rained(at, beds);
            }
            return sign == MORNING ? afterMorning(at) : Stand.watered(at, sign - FIRST_BED);
        }

        int afterMorning(int at) {
            return Stand.length(at) == 0 ? at : Stand.afterBloom(at, nextPlace(at));
        }

        /** The bed that blooms next; NONE: nothing is in the row. */
        int nextBed(int at) {
            return Stand.length(at) == 0 ? NONE : Stand.bedAt(at, nextPlace(at));
        }

        private int nextPlace(int at) {
            if (law == LAW_FIRST) {
                return 0;
            }
            int fromLast = law == LAW_LAST ? 1 : 3;
            return Math.max(0, Stand.length(at) - fromLast);
        }

        int firstImpossible(Pad pad) {
            int at = stand;
            for (int place = 0; place < pad.count; place++) {
                int sign = pad.signAt(place);
                if (whyNot(at, sign) != 0) {
                    return place;
                }
                at = after(at, sign);
            }
            return NONE;
        }

        int whyImpossible(Pad pad) {
            int first = firstImpossible(pad);
            int at = stand;
            for (int place = 0; place < first; place++) {
                at = after(at, pad.signAt(place));
            }
            return first == NONE ? NONE : whyNot(at, pad.signAt(first));
        }

        /** Does a week all of whose signs can be. */
        void live(Pad pad) {
            for (int place = 0; place < pad.count; place++) {
                int sign = pad.signAt(place);
                int number = Stand.numberBloomed(stand);
                if (sign == MORNING && number < MOST_BEDS) {
                    inBloom[number] = nextBed(stand);
                }
                stand = after(stand, sign);
            }
        }

        boolean see(int morning, int bed) {
            if (sights < 0 || sights >= MOST_SIGHTS) {
                return false;
            }
            sightMornings[sights] = morning;
            sightBeds[sights] = bed;
            sights++;
            return true;
        }

        boolean isAsSeen(int morning, int bed) {
            for (int sight = 0; sight < sights && sight < MOST_SIGHTS; sight++) {
                if (sightMornings[sight] == morning && sightBeds[sight] != bed) {
                    return false;
                }
            }
            return true;
        }

        boolean sawNoMorningFrom(int morning) {
            for (int sight = 0; sight < sights && sight < MOST_SIGHTS; sight++) {
                if (sightMornings[sight] >= morning) {
                    return false;
                }
            }
            return true;
        }

        /** Whether the colour of a bed is what a sign of a wish asks for. */
        boolean pleases(int sign, int bed) {
            return isBed(bed) && (sign == UNTOLD || Pad.colourOf(sign) == colours[bed]);
        }
    }

    /** The signs said so far, and what can not stand among them, read as week, order or wish. */
    private static final class Pad {
        int count = 0;
        private final int[] signs = new int[MOST_SIGNS];

        boolean write(int sign) {
            if (count < 0 || count >= MOST_SIGNS) {
                return false;
            }
            signs[count] = sign;
            count++;
            return true;
        }

        int signAt(int place) {
            return place >= 0 && place < MOST_SIGNS ? signs[place] : NONE;
        }

        int numberOf(int sign) {
            int number = 0;
            for (int place = 0; place < count; place++) {
                if (signAt(place) == sign) {
                    number++;
                }
            }
            return number;
        }

        int weekFault(int beds) {
            int untold = 0;
            for (int place = 0; place < count; place++) {
                int sign = signAt(place);
                if (sign == UNTOLD) {
                    untold++;
                }
                boolean stands = sign == UNTOLD || sign == RAIN || sign == MORNING || isLetter(sign, beds);
                if (!stands || untold > MOST_UNTOLD) {
                    return place;
                }
            }
            return NONE;
        }

        int orderFault(int beds) {
            int used = 0;
            for (int place = 0; place < count; place++) {
                int sign = signAt(place);
                if (!isLetter(sign, beds) || (used >>> sign - FIRST_BED & 1) == 1) {
                    return place;
                }
                used |= 1 << sign - FIRST_BED;
            }
            return count < beds ? count : NONE;
        }

        int wishFault(int beds) {
            for (int place = 0; place < count; place++) {
                int sign = signAt(place);
                boolean stands = sign == UNTOLD || colourOf(sign) != NONE;
                if (!stands || place >= beds) {
                    return place;
                }
            }
            return count == 0 ? 0 : NONE;
        }

        /** The order on the pad, packed; there is no fault in it. */
        int order() {
            int order = 0;
            for (int place = 0; place < count && place < MOST_BEDS; place++) {
                order |= Packed.put(signAt(place) - FIRST_BED, place);
            }
            return order;
        }

        static int colourOf(int sign) {
            switch (sign) {
                case 'r': return 0;
                case 'w': return 1;
                case 'y': return 2;
                case 'p': return 3;
                default: return NONE;
            }
        }

        private static boolean isLetter(int sign, int beds) {
            return sign >= FIRST_BED && sign < FIRST_BED + beds;
        }
    }

    /** All ways to write beds for the waterings that are not told. */
    private static final class Filling {
        boolean isKnown = false;
        int ways = 0;
        private int untold = 0;
        private final int[] first = new int[MOST_UNTOLD];
        private final int[] tried = new int[MOST_UNTOLD];

        void search(Garden garden, Pad pad) {
            isKnown = true;
            ways = 0;
            untold = pad.numberOf(UNTOLD);
            if (garden.sawNoMorningFrom(pad.numberOf(MORNING))) {
                goOn(garden, pad, 0, garden.stand, 0, 0);
            }
        }

        int firstAt(int i) {
            return ways > 0 && i >= 0 && i < untold && i < MOST_UNTOLD ? first[i] : NONE;
        }

        /** Follows the told signs up to the next one that is not told, or to the end. */
        private void goOn(Garden garden, Pad pad, int from, int stand, int mornings, int depth) {
            int at = stand;
            int morning = mornings;
            for (int place = from; place < pad.count; place++) {
                int sign = pad.signAt(place);
                if (sign == UNTOLD) {
                    tryBeds(garden, pad, place, at, morning, depth);
                    return;
                }
                if (garden.whyNot(at, sign) != 0) {
                    return;
                }
                if (sign == MORNING) {
                    if (!garden.isAsSeen(morning, garden.nextBed(at))) {
                        return;
                    }
                    morning++;
                }
                at = garden.after(at, sign);
            }
            keepWay();
        }

        private void tryBeds(Garden garden, Pad pad, int place, int at, int morning, int depth) {
            if (depth < 0 || depth >= MOST_UNTOLD) {
                return;
            }
            for (int bed = 0; bed < garden.beds; bed++) {
                if (garden.whyNotWater(at, bed) == 0) {
                    tried[depth] = bed;
                    goOn(garden, pad, place + 1, Stand.watered(at, bed), morning, depth + 1);
                }
            }
        }

        /** Beds are tried by letters, so the first way that is found is the first by letters. */
        private void keepWay() {
            if (ways == 0) {
                System.arraycopy(tried, 0, first, 0, MOST_UNTOLD);
            }
            ways++;
        }
    }

    /** Orders of blooming, packed. */
    private static final class Order {
        static boolean isHadFrom(Garden garden, int order) {
            return comesFrom(garden, order, Stand.EMPTY, 0);
        }

        /** Whether the rest of an order still comes out, the beds below 'next' having been watered. */
        private static boolean comesFrom(Garden garden, int order, int stand, int next) {
            int place = Stand.numberBloomed(stand);
            if (place >= garden.beds) {
                return true;
            }
            if (garden.nextBed(stand) == Packed.at(order, place)
                    && comesFrom(garden, order, garden.afterMorning(stand), next)) {
                return true;
            }
            return next < garden.beds && Stand.length(stand) < garden.gate
                    && comesFrom(garden, order, Stand.watered(stand, next), next + 1);
        }

        /**
         * By LAW 0 each way to put mornings between the waterings gives an order of its own, so the ways are
         * counted: heights[h] of them leave h beds in the row after a watering and any mornings behind it.
         */
        static long number(long[] heights, int beds, int gate) {
            int top = Math.min(gate, heights.length - 1);
            Arrays.fill(heights, 0L);
            if (top < 1) {
                return 0;
            }
            heights[0] = 1;
            for (int watered = 0; watered < beds; watered++) {
                long sum = 0;
                for (int height = top - 1; height >= 0; height--) {
                    sum += heights[height];
                    heights[height + 1] = sum;
                }
                heights[0] = sum;
            }
            return heights[0];
        }

        /** The places of the first greater, least, middle, packed; NONE: there are none such. */
        static int firstPattern(int order, int beds) {
            for (int i = 0; i < beds; i++) {
                for (int j = i + 1; j < beds; j++) {
                    for (int k = j + 1; k < beds; k++) {
                        int middle = Packed.at(order, k);
                        if (Packed.at(order, i) > middle && middle > Packed.at(order, j)) {
                            return Packed.put(i, 0) | Packed.put(j, 1) | Packed.put(k, 2);
                        }
                    }
                }
            }
            return NONE;
        }

        static int fewestGardens(int order, int beds) {
            for (int gardens = 1; gardens <= MOST_GARDENS; gardens++) {
                if (isMadeBy(order, beds, gardens)) {
                    return gardens;
                }
            }
            return NONE;
        }

        /** One garden without a gate makes just the orders without the pattern. */
        private static boolean isMadeBy(int order, int beds, int gardens) {
            if (gardens <= 1) {
                return firstPattern(order, beds) == NONE;
            }
            return isMadeBehind(order, beds, gardens, Stand.EMPTY, 0, 0);
        }

        /** Tries all that the first garden can give ('given' so far) as what comes into the others. */
        private static boolean isMadeBehind(int order, int beds, int gardens, int stand, int next, int given) {
            int number = Stand.numberBloomed(stand);
            if (number >= beds) {
                return isMadeBy(asSeenFrom(given, order, beds), beds, gardens - 1);
            }
            int last = Stand.length(stand) - 1;
            if (last >= 0) {
                int more = given | Packed.put(Stand.bedAt(stand, last), number);
                if (isMadeBehind(order, beds, gardens, Stand.afterBloom(stand, last), next, more)) {
                    return true;
                }
            }
            return next < beds && isMadeBehind(order, beds, gardens, Stand.watered(stand, next), next + 1, given);
        }

        /** The order with each bed called by its place in 'given', as if those came in by numbers. */
        private static int asSeenFrom(int given, int order, int beds) {
            int places = 0;
            for (int place = 0; place < beds; place++) {
                places |= Packed.put(place, Packed.at(given, place));
            }
            int seenOrder = 0;
            for (int place = 0; place < beds; place++) {
                seenOrder |= Packed.put(Packed.at(places, Packed.at(order, place)), place);
            }
            return seenOrder;
        }
    }

    /** The fewest waterings for a wish: the number is raised until a week is found. */
    private static final class Wishing {
        /** Rain and then each bed once bring the row into any order, so more is never needed. */
        private static final int MOST_WATERINGS = MOST_BEDS + 1;

        boolean isKnown = false;
        int waterings = NONE;
        private int length = 0;
        private final int[] week = new int[MOST_WATERINGS + MOST_BEDS];
        private final Memory memory = new Memory();

        void search(Garden garden, Pad pad) {
            isKnown = true;
            waterings = NONE;
            length = 0;
            if (!hasBedsFor(garden, pad)) {
                return;
            }
            memory.clear();
            for (int most = 0; most <= MOST_WATERINGS; most++) {
                if (isReached(garden, pad, garden.stand, most, 0)) {
                    waterings = most;
                    return;
                }
            }
        }

        int signAt(int i) {
            return i >= 0 && i < length && i < week.length ? week[i] : NONE;
        }

        /** As rain is always to be had, a wish fails only for want of beds of its colours. */
        private static boolean hasBedsFor(Garden garden, Pad pad) {
            if (pad.count > garden.beds - Stand.numberBloomed(garden.stand)) {
                return false;
            }
            for (int place = 0; place < pad.count; place++) {
                int sign = pad.signAt(place);
                if (sign != UNTOLD && pad.numberOf(sign) > numberToBloom(garden, sign)) {
                    return false;
                }
            }
            return true;
        }

        private static int numberToBloom(Garden garden, int sign) {
            int number = 0;
            for (int bed = 0; bed < garden.beds; bed++) {
                if (!Stand.hasBloomed(garden.stand, bed) && garden.pleases(sign, bed)) {
                    number++;
                }
            }
            return number;
        }

        /**
         * Whether the rest of the wish comes with so many waterings 'left'. Signs are tried in their order, so the
         * first week that is found is the first by signs. What failed once is not tried again with as few.
         */
        private boolean isReached(Garden garden, Pad pad, int stand, int left, int depth) {
            int wished = Stand.numberBloomed(stand) - Stand.numberBloomed(garden.stand);
            if (wished >= pad.count) {
                length = depth;
                return true;
            }
            int slot = memory.slotOf(stand);
            if (depth < 0 || depth >= week.length || memory.failedWith(slot) >= left) {
                return false;
            }
            int choices = left > 0 ? garden.beds + 2 : 1;
            for (int choice = 0; choice < choices; choice++) {
                int sign = signOf(choice, garden.beds);
                if (isFitting(garden, stand, sign, pad.signAt(wished))) {
                    week[depth] = sign;
                    int then = garden.after(stand, sign);
                    if (isReached(garden, pad, then, sign == MORNING ? left : left - 1, depth + 1)) {
                        return true;
                    }
                }
            }
            memory.keep(slot, left);
            return false;
        }

        /** The signs in the order in which weeks are compared: the morning, the beds, the rain. */
        private static int signOf(int choice, int beds) {
            if (choice == 0) {
                return MORNING;
            }
            return choice <= beds ? FIRST_BED + choice - 1 : RAIN;
        }

        private static boolean isFitting(Garden garden, int stand, int sign, int colour) {
            if (sign == MORNING) {
                return garden.pleases(colour, garden.nextBed(stand));
            }
            return garden.whyNot(stand, sign) == 0;
        }
    }

    /** For each stand that a search came to: the most waterings with which it failed there. */
    private static final class Memory {
        /** At most 5296 stands of six beds are there, so the table never fills. */
        private static final int BITS = 13, SIZE = 1 << BITS, SPREAD = 0x9E3779B1;
        private static final int FREE = -2, NEVER = -1;

        private final int[] stands = new int[SIZE];
        private final int[] failed = new int[SIZE];

        void clear() {
            Arrays.fill(failed, FREE);
        }

        int slotOf(int stand) {
            int slot = stand * SPREAD >>> 32 - BITS & SIZE - 1;
            for (int tries = 0; tries < SIZE; tries++) {
                if (failed[slot] == FREE) {
                    stands[slot] = stand;
                    failed[slot] = NEVER;
                    return slot;
                }
                if (stands[slot] == stand) {
                    return slot;
                }
                slot = slot + 1 & SIZE - 1;
            }
            return NONE;
        }

        int failedWith(int slot) {
            return slot >= 0 && slot < SIZE ? failed[slot] : NEVER;
        }

        void keep(int slot, int left) {
            if (slot >= 0 && slot < SIZE) {
                failed[slot] = left;
            }
        }
    }

    /** Rain by chance. */
    private static final class Chance {
        static long ofWish(Garden garden, Pad pad) {
            return tenths(garden, pad, garden.stand, 0);
        }

        /** Of all ways of the weather from this place of the wish on, weighed in tenths: those that please. */
        private static long tenths(Garden garden, Pad pad, int stand, int place) {
            if (place >= pad.count || place >= MOST_BEDS) {
                return 1;
            }
            long wet = 0;
            if (garden.wet > 0) {
                wet = garden.wet * afterWeather(garden, pad, Stand.rained(stand, garden.beds), place);
            }
            long dry = 0;
            if (garden.wet < TENTHS) {
                dry = (TENTHS - garden.wet) * afterWeather(garden, pad, stand, place);
            }
            return wet + dry;
        }

        private static long afterWeather(Garden garden, Pad pad, int stand, int place) {
            if (!garden.pleases(pad.signAt(place), garden.nextBed(stand))) {
                return 0;
            }
            return tenths(garden, pad, garden.afterMorning(stand), place + 1);
        }

        static long allTenths(int mornings) {
            long all = 1;
            for (int morning = 0; morning < mornings && morning < MOST_BEDS; morning++) {
                all *= TENTHS;
            }
            return all;
        }

        static long reduced(long number, long divisor) {
            return divisor > 1 ? number / divisor : number;
        }

        static long commonDivisor(long one, long other) {
            long greater = other;
            long lesser = one;
            for (int steps = 0; steps < 100 && lesser != 0; steps++) {
                long rest = greater % lesser;
                greater = lesser;
                lesser = rest;
            }
            return greater;
        }
    }

    /** Two gardeners by turns. */
    private static final class Gardeners {
        static int morningOfBloom(Garden garden, int wanted) {
            return morningOf(garden, garden.stand, wanted, 1);
        }

        /** The morning on which the wanted bed blooms, both doing their best from this morning on. */
        private static int morningOf(Garden garden, int stand, int wanted, int morning) {
            // While a bed waits, one blooms each morning: what would go deeper is not there.
            if (morning > MOST_BEDS) {
                return NONE;
            }
            boolean isFirstsTurn = morning % 2 == 1;
            int best = NONE;
            for (int bed = 0; bed < garden.beds; bed++) {
                if (garden.whyNotWater(stand, bed) == 0) {
                    int other = afterWatering(garden, Stand.watered(stand, bed), wanted, morning);
                    best = better(best, other, isFirstsTurn);
                }
            }
            return best == NONE ? afterWatering(garden, stand, wanted, morning) : best;
        }

        private static int afterWatering(Garden garden, int stand, int wanted, int morning) {
            int after = garden.afterMorning(stand);
            return Stand.hasBloomed(after, wanted) ? morning : morningOf(garden, after, wanted, morning + 1);
        }

        private static int better(int best, int other, boolean isSooner) {
            if (best == NONE) {
                return other;
            }
            return isSooner ? Math.min(best, other) : Math.max(best, other);
        }
    }
}
