import java.lang.management.ManagementFactory;

/** What 512 calls of each kind leave in the room: the dearest ones may not make rows of their own. */
public final class RoomTest {
    private static final int CALLS = 512;
    /** For each call a break, or a law of 120 bytes, may be made; nothing else comes near. */
    private static final long BYTES = CALLS * 900L;

    private RoomTest() {
    }

    private static long allocated() {
        com.sun.management.ThreadMXBean threads = (com.sun.management.ThreadMXBean) ManagementFactory.getThreadMXBean();
        return threads.getThreadAllocatedBytes(Thread.currentThread().getId());
    }

    private static KettleBeats fullObject() {
        KettleBeats x = Checks.withLaw("draw 60 a<3;draw 20 c>2&!(a>6);ease 15 k=1|t>30;most 45");
        for (int i = 0; i < 8; i++) {
            x.pause(i % 7, 3 * i, 90, i);
            x.later(i, i < 4 ? 3 : 10, i < 4 ? 4 : 0);
        }
        for (int i = 0; i < 5; i++) {
            x.work(i, 20, 30, i);
            x.call(i, 4 * i, 9);
        }
        for (int i = 0; i < 20; i++) {
            x.row(2 * i);
        }
        x.image();
        return x;
    }

    private static long one(KettleBeats x, int call) {
        switch (call) {
            case 0: return x.best(0, 3, 0);
            case 1: return x.sure(20, 1);
            case 2: return x.worst(20, 1);
            case 3: return x.inertia(0);
            case 4: return x.watched(3, 0);
            case 5: return x.waits(0, 1, 1);
            case 6: return x.beside(0, 0, 20, 999);
            case 7: return x.wave(2);
            case 8: return x.pump(3, 3);
            case 9: return x.image() + x.undo();
            case 10: return x.act(2, 2, 5);
            case 11: return x.undo() + x.pause(5, 1, 1, 1);
            case 12: return x.call(1, 2, 3);
            default: return x.undo() + x.feed(0x6d6f737420350a0aL, 6) + x.law();
        }
    }

    public static void main(String[] args) {
        for (int call = 0; call < 14; call++) {
            KettleBeats x = fullObject();
            one(x, call);
            long before = allocated();
            for (int i = 0; i < CALLS; i++) {
                one(x, call);
            }
            long made = allocated() - before;
            Checks.due("call " + call + " makes " + made + " bytes, too many", made > BYTES ? 1 : 0, 0);
        }
        long before = allocated();
        KettleBeats x = new KettleBeats();
        long made = allocated() - before;
        Checks.due("a new object makes " + made + " bytes, too many, and costs", made > 20_000 ? 1 : x.costs(), 0);
        Checks.close();
    }
}
