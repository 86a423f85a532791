import com.sun.management.ThreadMXBean;
import java.lang.management.ManagementFactory;

/** What a run makes is small: all calls live in one room, and nothing in it is thrown away. */
public final class RoomTest {
    private static final ThreadMXBean BEAN = (ThreadMXBean) ManagementFactory.getThreadMXBean();
    /** A tenth of a room of 7.3 million fields and elements, were each of them four bytes. */
    private static final long MADE_MOST = 2900000;
    /** The measuring itself may make some objects. */
    private static final long ASKED_MOST = 4000;
    private static final int KINDS = 12;

    private RoomTest() {
    }

    public static void main(String[] args) {
        // The first run loads the classes.
        run();
        long before = made();
        run();
        Checks.due("a whole run with all its texts makes little", made() - before < MADE_MOST, true);
        for (int kind = 0; kind < KINDS; kind++) {
            FlowerPots pots = full();
            before = made();
            for (int call = 0; call < 100; call++) {
                ask(pots, kind, call);
            }
            long more = made() - before;
            Checks.due("asking of kind " + kind + " makes nothing", more < ASKED_MOST, true);
        }
        Checks.end("RoomTest");
    }

    private static long made() {
        return BEAN.getThreadAllocatedBytes(Thread.currentThread().getId());
    }

    /** With as many texts as are kept. */
    private static FlowerPots full() {
        FlowerPots pots = Checks.made("n5r5w5d5", "a=rrrrr;b=wwwww", "a=?????", "a=r????;b=w????");
        for (int i = 0; i < 4; i++) {
            Checks.text(pots, 2, "abababab");
            Checks.text(pots, 3, "y:[p*d]+s*n/2-1;y:0");
        }
        pots.light(0);
        return pots;
    }

    /** Calls of all kinds, and one sill behind the other: some 500 calls. */
    private static void run() {
        FlowerPots pots = full();
        for (int call = 0; call < 10 * KINDS; call++) {
            ask(pots, call % KINDS, call);
        }
        for (int call = 0; call < 80; call++) {
            Checks.text(pots, 0, "n" + (2 + call % 4));
        }
    }

    private static void ask(FlowerPots pots, int kind, int call) {
        switch (kind) {
            case 0:
                pots.gap(call % 3);
                break;
            case 1:
                pots.word(call % 3, call % 4, call % 2);
                break;
            case 2:
                pots.soonest(call % 3, call % 4);
                break;
            case 3:
                pots.ways(6);
                break;
            case 4:
                pots.likely(call % 3, 6, 1 + call % 6, call % 2);
                break;
            case 5:
                pots.nearest(call % 3, call % 2, true, call % 2);
                break;
            case 6:
                pots.put(call % 5, 1 + call % 2);
                pots.frost(call % 2);
                break;
            case 7:
                pots.drawn(1 + call % 3, call);
                break;
            case 8:
                pots.image();
                pots.evening(0);
                pots.back();
                break;
            case 9:
                pots.tell(call % 3, call % 8);
                pots.apart();
                break;
            case 10:
                pots.feed(0x79307930, call, call, call, call);
                pots.fault(call % 4);
                pots.end(0);
                break;
            default:
                pots.read(call % 3, call % 3);
                pots.safe(call % 3, 0, call);
                pots.aunt(call % 3, 0, 1);
        }
    }
}
