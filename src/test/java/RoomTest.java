import com.sun.management.ThreadMXBean;
import java.lang.management.ManagementFactory;

/** The dearest calls, 512 of each, together make far less than the room of a run holds. */
public final class RoomTest {
    private static final int CALLS = 512;
    // A run may make some 600,000 objects; the smallest one takes 16 bytes.
    private static final long MOST_BYTES = 600_000L * 16 / 4;

    private static long kept = 0;

    public static void main(String[] args) {
        Orderlattice x = new Orderlattice();
        for (int i = 0; i < 12; i++) {
            x.fill(0, 12, i, 7);
            x.copyRow(0, 1);
            x.clear(i == 11 ? 2 : 0);
        }
        for (int key = 0; key < 5; key++) {
            x.step(0, key, true);
        }
        dueRoom("43: isSound", x, 0);
        dueRoom("44: digest", x, 1);
        dueRoom("17: text", x, 2);
        dueRoom("23: groups", x, 3);
        dueRoom("24: ranks", x, 4);
        dueRoom("32: orderText", x, 5);
        dueRoom("11: sort", x, 6);
        dueRoom("31: tellApart", x, 7);
        Check.due("something was answered", kept != 0, true);
        Check.end();
    }

    private static void dueRoom(String what, Orderlattice x, int call) {
        ThreadMXBean threads = (ThreadMXBean) ManagementFactory.getThreadMXBean();
        kept += answer(x, call);
        long before = threads.getCurrentThreadAllocatedBytes();
        for (int i = 0; i < CALLS; i++) {
            kept += answer(x, call);
        }
        long bytes = threads.getCurrentThreadAllocatedBytes() - before;
        Check.due(what + " makes " + bytes + " bytes, within the room", bytes <= MOST_BYTES, true);
    }

    private static long answer(Orderlattice x, int call) {
        switch (call) {
            case 0:
                return x.isSound() ? 1 : 0;
            case 1:
                return x.digest();
            case 2:
                return x.text(0).length();
            case 3:
                return x.groups(0, 0).length();
            case 4:
                return x.ranks(0, 0, true).length();
            case 5:
                return x.orderText(0).length();
            case 6:
                return x.turn(0) + x.sort(0, 0, 1);
            default:
                return x.tellApart(1, 2, 3) + x.wipe(1);
        }
    }
}
