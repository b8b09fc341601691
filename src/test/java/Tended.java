/** A LastWatered whose calls are counted, since nothing is promised after the 512th; and texts of what it answers. */
final class Tended {
    static final int MOST_CALLS = 512;

    private final LastWatered x = new LastWatered();
    private int calls = 0;

    private LastWatered next() {
        calls++;
        if (calls > MOST_CALLS) throw new IllegalStateException("a test makes more than 512 calls on one object");
        return x;
    }

    int calls() {
        return calls;
    }

    int beds(int n) {
        return next().beds(n);
    }

    int colour(int bed, int v) {
        return next().colour(bed, v);
    }

    int past(int bed, int other) {
        return next().past(bed, other);
    }

    int set(int which, int v) {
        return next().set(which, v);
    }

    int say(int sign) {
        return next().say(sign);
    }

    int wipe() {
        return next().wipe();
    }

    int fault(int how) {
        return next().fault(how);
    }

    int judge(int what) {
        return next().judge(what);
    }

    int week() {
        return next().week();
    }

    int row(int i) {
        return next().row(i);
    }

    int bloomed(int i) {
        return next().bloomed(i);
    }

    int anew() {
        return next().anew();
    }

    int seen(int morning, int bed) {
        return next().seen(morning, bed);
    }

    int forget() {
        return next().forget();
    }

    int filled(int i) {
        return next().filled(i);
    }

    int canBe() {
        return next().canBe();
    }

    long orders(int m, int k) {
        return next().orders(m, k);
    }

    int pattern(int i) {
        return next().pattern(i);
    }

    int behind() {
        return next().behind();
    }

    int fewest(int i) {
        return next().fewest(i);
    }

    long chance(int part) {
        return next().chance(part);
    }

    int turns(int bed) {
        return next().turns(bed);
    }

    int image(int n) {
        return next().image(n);
    }

    int restore(int n) {
        return next().restore(n);
    }

    int told(int what) {
        return next().told(what);
    }

    /** Another text is on the pad then. */
    Tended write(String text) {
        wipe();
        for (char c : text.toCharArray()) say(c);
        return this;
    }

    int done(String text) {
        return write(text).week();
    }

    String rowText() {
        StringBuilder text = new StringBuilder();
        int length = row(-1);
        for (int i = 0; i < length; i++) text.append((char) ('a' + row(i)));
        return text.toString();
    }

    String bloomedText() {
        StringBuilder text = new StringBuilder();
        int number = bloomed(-1);
        for (int i = 0; i < number; i++) text.append((char) ('a' + bloomed(i)));
        return text.toString();
    }

    /** The row and what has bloomed. */
    String standing() {
        return rowText() + "|" + bloomedText();
    }

    /** The settings, the beds, how many signs and sights there are, the row, what has bloomed. */
    String kept() {
        StringBuilder text = new StringBuilder(standing());
        for (int what = 0; what <= 25; what++) text.append(' ').append(told(what));
        return text.toString();
    }

    /** What all calls answer that only read: what is on the pad shows in it, and what was seen. */
    String all() {
        StringBuilder text = new StringBuilder(kept());
        for (int how = 0; how <= 2; how++) text.append(" fault ").append(fault(how));
        for (int what = 0; what <= 1; what++) text.append(" judge ").append(judge(what));
        for (int i = -1; i <= 3; i++) text.append(" filled ").append(filled(i));
        text.append(" canBe ").append(canBe());
        for (int i = 0; i <= 2; i++) text.append(" pattern ").append(pattern(i));
        text.append(" behind ").append(behind());
        for (int i = -1; i <= 12; i++) text.append(" fewest ").append(fewest(i));
        for (int part = 0; part <= 1; part++) text.append(" chance ").append(chance(part));
        for (int bed = 0; bed <= 5; bed++) text.append(" turns ").append(turns(bed));
        return text.toString();
    }
}
