import com.sun.management.ThreadMXBean;
import java.lang.management.ManagementFactory;
import java.util.function.IntSupplier;
import java.util.function.Supplier;

/** How much is made: all calls of one run live in one room, so a call makes nothing or next to it. */
public final class MemoryTest {
    // With what full() asks, no object is asked more than 512 times.
    private static final int CALLS = 16;
    // The least that can be made is 16 bytes, so this is less than one object a call.
    private static final int MOST_BYTES_OF_QUIET = 15 * CALLS;
    // A new object has some 2,600 numbers of 4 bytes and some 90 headers.
    private static final int MOST_BYTES_OF_NEW = 16_000;
    // One text builder and its signs, with no need to grow.
    private static final int MOST_BYTES_OF_WRITTEN = 100;
    private static final ThreadMXBean THREADS = (ThreadMXBean) ManagementFactory.getThreadMXBean();
    private static final Due due = new Due();

    public static void main(String[] args) {
        if (!THREADS.isThreadAllocatedMemorySupported() || !THREADS.isThreadAllocatedMemoryEnabled()) {
            System.out.println("this machine does not tell what is made: nothing is tested");
            return;
        }
        newObject();
        quietCalls();
        lines();
        written();
        due.end();
    }

    private static StreamWeave full() {
        StreamWeave x = Due.woven("wide 4", "table 1", "clock 0 1", "clock 3 2");
        for (int f = 0; f < 3; f++) {
            for (int p = 0; p < 4; p++) {
                Due.line(x, "frame " + p + " 9 " + (99 - 9 * (2 - f)));
            }
        }
        return x;
    }

    private static int bytesOf(IntSupplier call) {
        call.getAsInt();
        long before = THREADS.getCurrentThreadAllocatedBytes();
        for (int k = 0; k < CALLS; k++) {
            call.getAsInt();
        }
        return (int) (THREADS.getCurrentThreadAllocatedBytes() - before);
    }

    private static void atMost(String what, int bytes, int most) {
        due.is(what + " made " + bytes + " bytes, that this is at most " + most, bytes <= most ? 1 : 0, 1);
    }

    private static void newObject() {
        due.about("a new object");
        Supplier<StreamWeave> maker = StreamWeave::new;
        int bytes = bytesOf(() -> maker.get().count(0));
        atMost("the constructor", bytes / CALLS, MOST_BYTES_OF_NEW);
    }

    /** Behind without the stream is woven anew by the first call that asks it. */
    private static void quietCalls() {
        due.about("calls that make nothing");
        quiet("needs", full()::needs);
        quiet("fault", full()::fault);
        quiet("wipe", full()::wipe);
        for (int n = 0; n < 4; n++) {
            int number = n;
            StreamWeave x = full();
            quiet("say", () -> x.say('a' + number));
            StreamWeave y = full();
            quiet("room", () -> y.room(number));
            StreamWeave z = full();
            quiet("without, most, packet", () -> z.without(number) + z.most(number) + z.packet(99, number, 3)
                + z.held(number, 98) + z.frame(number, 2, 3) + z.told(number, 4) + z.sent(number) + z.count(number));
            StreamWeave w = full();
            quiet("image, restore", () -> w.image(number) + w.restore(number));
        }
    }

    private static void quiet(String name, IntSupplier call) {
        atMost(name + ", " + CALLS + " times,", bytesOf(call), MOST_BYTES_OF_QUIET);
    }

    private static void lines() {
        due.about("lines");
        for (String text : new String[] {"frame 1 9 99", "room 1 9", "clock 1 9", "table 9", "wide 2", "drop 1",
            "swap 1 2 3", "swap 2 2 2", "nothing"}) {
            StreamWeave x = full();
            quiet(text, () -> Due.line(x, text));
        }
    }

    private static void written() {
        due.about("written");
        StreamWeave x = full();
        int bytes = bytesOf(() -> x.written(3, 2, 11));
        atMost("written", bytes / CALLS, MOST_BYTES_OF_WRITTEN);
    }
}
