import com.sun.management.ThreadMXBean;
import java.lang.management.ManagementFactory;

/**
 * The room that 512 calls take: 600,000 objects of 16 bytes at least, 7.3 million elements. What stays below four
 * million bytes stays below both, by far.
 */
public final class RoomTest {
    private static final long ROOM = 4_000_000;
    private static final Check CHECK = new Check();
    private static final ThreadMXBean BEAN = (ThreadMXBean) ManagementFactory.getThreadMXBean();

    /** One of the dearest calls, done over and over. */
    private interface Turn {
        void take(PenPage x, int call);
    }

    public static void main(String[] args) {
        measure("new objects are cheap", (x, call) -> {
            if (call % 16 == 0) {
                new PenPage().writers(5);
            }
        });
        measure("moves of long keys", (x, call) -> {
            int page = call % 5;
            if (x.page(page, 1) < 8) {
                x.set(page, 0, 97);
            } else {
                x.move(page, 1, 6, 0);
            }
        });
        measure("sends", (x, call) -> {
            if (call % 2 == 0) {
                x.set(call % 5, 0, 97);
            } else {
                x.send((call - 1) % 5, (call + 1) % 5, (call - 1) % 5, x.page((call - 1) % 5, 10 + (call - 1) % 5));
            }
        });
        measure("tapes of 400", (x, call) -> {
            if (call % 21 == 20) {
                x.hear(call % 5, 400);
            } else {
                x.feed(call, call, call, call, call);
            }
        });
        int[] packet = Bytes.set(1, 1, 1, 97, new int[] {400, 8, 8, 8, 8, 8, 8, 8, 8, 8, 8, 8, 8, 8, 8, 8, 8, 8, 8, 8, 8, 8, 8, 8});
        measure("packets heard again", (x, call) -> {
            if (call % 5 == 4) {
                x.hear(call % 3, packet.length);
            } else {
                int at = 20 * (call % 5);
                int[] n = Bytes.numbers(packet, at);
                x.feed(n[0], n[1], n[2], n[3], n[4]);
            }
        });
        measure("stories", (x, call) -> {
            if (call < 8) {
                x.act(call % 3, 0, 97);
            } else if (call % 2 == 0) {
                x.story(0);
            } else {
                x.say(97);
            }
        });
        measure("images", (x, call) -> {
            if (call % 3 == 0) {
                x.set(0, 0, 97);
            } else if (call % 3 == 1) {
                x.image();
            } else {
                x.restore();
            }
        });
        measure("questions", (x, call) -> {
            if (call < 60) {
                x.set(call % 2, 0, 97);
                x.send(call % 2, 2, call % 2, call / 2 + 1);
            }
            x.page(call % 5, 3);
            x.page(call % 5, 1);
            x.fewest(call % 5, 2);
        });
        CHECK.finish();
    }

    private static void measure(String what, Turn turn) {
        BEAN.setThreadAllocatedMemoryEnabled(true);
        run(turn);
        long before = BEAN.getThreadAllocatedBytes(Thread.currentThread().getId());
        run(turn);
        long taken = BEAN.getThreadAllocatedBytes(Thread.currentThread().getId()) - before;
        if (taken > ROOM) {
            CHECK.yes(what + " take " + taken + " bytes", false);
        }
    }

    private static void run(Turn turn) {
        PenPage x = new PenPage();
        x.writers(5);
        for (int call = 0; call < 512; call++) {
            turn.take(x, call);
        }
    }
}
