import com.sun.management.ThreadMXBean;
import java.lang.management.ManagementFactory;

/** All calls of a run live in one room, so calls make no objects but the two images. */
public final class RoomTests {
    private static final int MOST_BYTES = 4096;

    private static final ThreadMXBean THREADS = (ThreadMXBean) ManagementFactory.getThreadMXBean();

    private static void write(LastWatered x, String text) {
        x.wipe();
        for (int i = 0; i < text.length(); i++) x.say(text.charAt(i));
    }

    /** The dearest calls: nothing that is asked twice is known from before. */
    private static void run(LastWatered x) {
        for (int bed = 0; bed < 6; bed++) x.colour(bed, bed % 4);
        for (int law = 0; law < 3; law++) {
            x.set(0, law);
            for (int gate = 1; gate <= 6; gate += 5) {
                x.set(1, gate);
                write(x, "????......");
                x.seen(1, 2);
                x.filled(-1);
                x.forget();
                x.judge(0);
                write(x, "fabcde");
                x.canBe();
                x.behind();
                x.pattern(0);
                x.orders(30, 30);
                write(x, "wrpywr");
                x.fewest(-1);
                x.chance(0);
                x.turns(0);
                x.image(0);
                x.image(1);
                x.restore(0);
            }
        }
    }

    public static void main(String[] args) {
        run(new LastWatered());
        long made = THREADS.getCurrentThreadAllocatedBytes();
        LastWatered x = new LastWatered();
        long forObject = THREADS.getCurrentThreadAllocatedBytes() - made;
        long before = THREADS.getCurrentThreadAllocatedBytes();
        run(x);
        long forCalls = THREADS.getCurrentThreadAllocatedBytes() - before;
        System.out.println("bytes for an object: " + forObject + ", for its calls: " + forCalls);
        if (forCalls > MOST_BYTES || forObject > 200000) System.exit(1);
    }
}
