import com.sun.management.ThreadMXBean;
import java.lang.management.ManagementFactory;

/** Calls make no objects: what they need is made with the object. */
public final class RoomTest {
    private static final ThreadMXBean THREADS = (ThreadMXBean) ManagementFactory.getThreadMXBean();

    public static void main(String[] args) {
        Check check = new Check();
        RentRiver river = Check.river("town a 2 50 5 100;town b 3 40 4 60;town c 1 30 2 50;water 0 20;"
            + "water 1 30;water 2 9;bid a 0 10;bid b 0 8;bid b 1 12;bid c 2 20;need a 15;need b 20;"
            + "mill b 6;bridge a 2;move 3;fish 10;patience 2;field a 5 4;");
        calls(river);
        long id = Thread.currentThread().getId();
        long before = THREADS.getThreadAllocatedBytes(id);
        long between = THREADS.getThreadAllocatedBytes(id);
        for (int i = 0; i < 10; i++) {
            calls(river);
        }
        long made = THREADS.getThreadAllocatedBytes(id) - between - (between - before);
        check.due("bytes made by calls, above 1000", Math.max(1000, made), 1000);
        check.end();
    }

    private static void calls(RentRiver river) {
        river.begin();
        river.on(12);
        river.write();
        river.byteAt(3);
        // "shore" and "sea 1;", then levels that don't fit.
        river.feed(0x73686f72, 0x65202020, 0x20202020, 0x20202020, 0x20202020);
        river.sentence();
        river.said(-1);
        river.feed(0x73656120, 0x313b2020, 0x20202020, 0x20202020, 0x20202020);
        river.contracts();
        river.feed(0x03000000, 0, 0, 0, 0);
        river.end(7);
        river.leaks();
        river.cheapest();
        river.take();
        river.rounds(1);
        river.worth(0);
        river.drawn(3);
        river.shores(1, 20, 5);
        river.must(1, 3);
        river.enough(0);
        river.offer(0, 5, 7);
        river.undo();
        river.image(0);
        river.restore(0);
        river.shoresOf();
        river.thirsty();
        // "move 1;": a plain of its own, and back again.
        river.feed(0x6d6f7665, 0x20313b20, 0x20202020, 0x20202020, 0x20202020);
        river.plain();
        river.restore(0);
    }
}
