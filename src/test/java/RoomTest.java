import com.sun.management.ThreadMXBean;
import java.lang.management.ManagementFactory;
import java.util.function.Consumer;

/**
 * All that a run makes lives in one room, without anything taken away: some 600,000 objects and
 * 7.3 million fields and elements. An object takes at least 16 bytes and an element at least one,
 * so a run that makes fewer bytes than both bounds stays within the room, however they are counted.
 */
final class RoomTest {
    private static final long ROOM_IN_BYTES = Math.min(600_000L * 16, 7_300_000L);
    private static final int CALLS = 512;
    private static final Due due = new Due("RoomTest");
    private static final ThreadMXBean meter = (ThreadMXBean) ManagementFactory.getThreadMXBean();

    public static void main(String[] args) {
        due.sentence("what a run of 512 calls makes");
        everyCallIs("move", x -> x.move(15, 0));
        everyCallIs("deliver", x -> x.deliver(0));
        everyCallIs("alone", x -> x.alone(15, 200, 1));
        everyCallIs("nodes", x -> x.nodes(5));
        everyCallIs("joined", x -> x.joined(true));
        everyCallIs("resend, lose", x -> {
            x.resend(0, 1);
            x.lose(0);
        });
        everyCallIs("crash, back", x -> {
            x.crash(0);
            x.back();
        });
        everyCallIs("letter, entry, of, node, told", x -> {
            x.letter(0, 4);
            x.entry(0, 0, 1);
            x.of(0, 0);
            x.node(0, 3);
            x.told(5);
        });
        due.end();
    }

    private static void everyCallIs(String name, Consumer<SplitNodes> call) {
        long before = meter.getThreadAllocatedBytes(Thread.currentThread().getId());
        SplitNodes x = fullGraph();
        for (int i = 0; i < CALLS; i++) {
            call.accept(x);
        }
        long made = meter.getThreadAllocatedBytes(Thread.currentThread().getId()) - before;
        due.isTrue(name + " makes " + made + " bytes, at most " + ROOM_IN_BYTES, made <= ROOM_IN_BYTES);
    }

    /** 5 nodes, 16 vertices, 40 arcs between nodes, and values that stay active. */
    private static SplitNodes fullGraph() {
        SplitNodes x = new SplitNodes();
        x.nodes(5);
        for (int v = 0; v < 16; v++) {
            x.vertex(v % 5, v + 1);
        }
        for (int a = 0; a < 40; a++) {
            x.arc(a % 16, (a + 1 + a / 16) % 16, 1);
        }
        x.kind(2);
        x.every(1);
        x.start();
        return x;
    }
}
