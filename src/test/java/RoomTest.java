import com.sun.management.ThreadMXBean;
import java.lang.management.ManagementFactory;

/** What an object and a run of 512 of its dearest calls make: bytes that this thread asks the machine for. */
public final class RoomTest {
    private static final ThreadMXBean BEAN = (ThreadMXBean) ManagementFactory.getThreadMXBean();
    private static final long OBJECT_BYTES = 120_000;
    private static final long RUN_BYTES = 4_000;

    private RoomTest() {
    }

    public static void main(String[] args) {
        if (!BEAN.isThreadAllocatedMemorySupported()) {
            System.out.println("this machine does not count bytes: nothing asked");
            return;
        }
        BEAN.setThreadAllocatedMemoryEnabled(true);
        NeedNotJoin warm = made();
        for (int kind = 0; kind < 16; kind++) {
            call(warm, kind);
        }
        long before = bytes();
        NeedNotJoin x = new NeedNotJoin();
        long object = bytes() - before;
        Due.is("bytes of an object: " + object, object <= OBJECT_BYTES, true);
        for (int kind = 0; kind < 16; kind++) {
            x = made();
            before = bytes();
            for (int i = 0; i < 512; i++) {
                call(x, kind);
            }
            long run = bytes() - before;
            Due.is("bytes of 512 calls of kind " + kind + ": " + run, run <= RUN_BYTES, true);
        }
        Due.end();
    }

    private static long bytes() {
        return BEAN.getThreadAllocatedBytes(Thread.currentThread().getId());
    }

    /** Worlds on which the calls below go furthest. */
    private static NeedNotJoin made() {
        NeedNotJoin x = new NeedNotJoin();
        Due.text(x, 0, "order 3 5; field 1 2 0 0 0;");
        Due.text(x, 1, "order 3 5;");
        Due.text(x, 2, "order 2 4; field 1 1 0 0;");
        Due.text(x, 3, "order 2 4;");
        Due.text(x, 4, "order 3 3;");
        Due.text(x, 5, "order 5 3; field 2 3 0; twist 31 2 1; turn 3;");
        return x;
    }

    private static long call(NeedNotJoin x, int kind) {
        switch (kind) {
            case 0: return x.feed(1869767781, 1914713376, 859530857, 1701602336, 840970528) + x.text(3);
            case 1: return x.of(0, 17);
            case 2: return x.of(0, 12) + x.of(0, 5) + x.of(0, 15);
            case 3: return x.parted(0, 0) + x.parted(1, 1);
            case 4: return x.same(3, 3);
            case 5: return x.same(4, 4);
            case 6: return x.isotopes(2, 2);
            case 7: return x.fano(0, 0, 1, 244, 490) + x.fano(2, 0, 1, 17, 34);
            case 8: return x.plane(2, 1, 77, 0) + x.plane(2, 1, 77, 1) + x.plane(2, 1, 77, 2);
            case 9: return x.list(2, 3, 2) + (x.take(5, 2, 9, 5) ? 1 : 0);
            case 10: return x.image(true) && x.image(false) ? 1 : 0;
            case 11: return x.turn(0, 3, 4) ? x.undo(true) + x.undo(false) : 0;
            case 12: return x.unital(2, 5, 7);
            case 13: return x.span(0, 3, 100) + x.powers(0, 3) + x.quotient(0, 3, 100, true);
            case 14: return x.carry(0, 0) + x.carry(5, 5);
            default: return x.of(5, 14) + x.of(5, 4) + x.ranks(5, 2, 3);
        }
    }
}
