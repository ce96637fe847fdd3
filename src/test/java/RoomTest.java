import com.sun.management.ThreadMXBean;
import java.lang.management.ManagementFactory;

/** The dearest calls, 512 of each, make far less than the room of a run holds. */
public final class RoomTest {
    private static final int CALLS = 512;
    // Some calls are asked two at a time, and making the object takes some, too.
    private static final int ASKED = 200;
    // A run may make some 600,000 objects; the smallest one takes 16 bytes.
    private static final long MOST_BYTES = 600_000L * 16 / 4;

    private static long kept = 0;

    public static void main(String[] args) {
        dueRoom("43: isSound", 0);
        dueRoom("44: digest", 1);
        dueRoom("17: text", 2);
        dueRoom("23: groups", 3);
        dueRoom("24: ranks", 4);
        dueRoom("32: orderText", 5);
        dueRoom("11: sort", 6);
        dueRoom("31: tellApart", 7);
        Check.due("something was answered", kept != 0, true);
        Check.end();
    }

    private static void dueRoom(String what, int call) {
        Orderlattice x = Made.full();
        x.wipe(1);
        ThreadMXBean threads = (ThreadMXBean) ManagementFactory.getThreadMXBean();
        kept += answer(x, call);
        long before = threads.getCurrentThreadAllocatedBytes();
        for (int i = 0; i < ASKED; i++) {
            kept += answer(x, call);
        }
        long bytes = (threads.getCurrentThreadAllocatedBytes() - before) * CALLS / ASKED;
        Check.due(what + " makes " + bytes + " bytes, within the room", bytes <= MOST_BYTES, true);
    }

    private static long answer(Orderlattice x, int call) {
        switch (call) {
            case 0:
                return x.isSound() ? 1 : 0;
            case 1:
                return x.digest();
            case 2:
                return x.text(0).length();
            case 3:
                return x.groups(0, 0).length();
            case 4:
                return x.ranks(0, 0, true).length();
            case 5:
                return x.orderText(0).length();
            case 6:
                return x.turn(0) + x.sort(0, 0, 1);
            default:
                return x.tellApart(1, 2, 3) + x.wipe(1);
        }
    }
}
